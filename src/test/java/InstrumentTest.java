import java.util.function.ObjIntConsumer;

/** Promises 12 to 29: the questions about one instrument. */
public final class InstrumentTest {
    public static void main(String[] args) {
        counts();
        kindsAndNone();
        hairsAndBroken();
        wetnessAndSlack();
        water();
        depressionAndRaw();
        zeroAndReading();
        boxAndSurrounding();
        errors();
        settled();
        reasonsAndWeights();
        obstacles();
        noSuchInstrument();
        Check.finish("InstrumentTest");
    }

    private static void counts() {
        Check.same("12 none", Rooms.of("room 0 0 0").instrumentCount(), 0);
        Check.same("12 one", Rooms.of("room 0 0 0;bulb 0").instrumentCount(), 1);
        Check.same("12 six", Rooms.of("room 0 0 0;bulb 0;bulb 0;hair 1;hair 1;hair 1;bulb 1").instrumentCount(), 6);
    }

    private static void kindsAndNone() {
        HygrometerRoom room = Rooms.of("room 10 20 0;bulb 0;hair 20;bulb 60");
        Check.same("13 bulb", room.isHair(0), false);
        Check.same("13 hair", room.isHair(1), true);
        Check.same("14 hairs of a bulb", room.hairsOf(0), -1);
        Check.same("14 hairs", room.hairsOf(1), 20);
        Check.same("15 broken of a bulb", room.brokenOf(2), -1);
        Check.same("15 broken", room.brokenOf(1), 0);
        Check.same("16 wetness of a bulb", room.wetnessOf(2), -1);
        Check.same("16 wetness", room.wetnessOf(1), 10);
        Check.same("17 slack of a bulb", room.slackOf(2), -1);
        Check.same("17 slack", room.slackOf(1), 0);
        Check.same("18 water of a hair", room.waterOf(1), -1);
        Check.same("18 no water", room.waterOf(0), 0);
        Check.same("18 water", room.waterOf(2), 60);
        Check.same("19 depression of a hair", room.depressionOf(1), -1);
        Check.same("19 depression without water", room.depressionOf(0), 0);
        Check.same("19 depression", room.depressionOf(2), 27);
    }

    private static void hairsAndBroken() {
        HygrometerRoom room = Rooms.of("room 0 0 5;hair 2;minutes 99");
        room.tighten(0);
        Check.same("14 one less", room.hairsOf(0), 1);
        Check.same("15 one broken", room.brokenOf(0), 1);
        room.tighten(0);
        Check.same("14 none", room.hairsOf(0), 0);
        Check.same("15 two broken", room.brokenOf(0), 2);
        room.addHairs(0, 5);
        Check.same("14 new hairs", room.hairsOf(0), 5);
        Check.same("15 all that have broken", room.brokenOf(0), 2);
    }

    private static void wetnessAndSlack() {
        HygrometerRoom room = Rooms.of("room 100 0 0;hair 1;hair 20");
        room.setHumidity(0);
        room.advance(1);
        Check.same("16 by 21", room.wetnessOf(0), 79);
        Check.same("16 by 2", room.wetnessOf(1), 98);
        room.advance(99);
        Check.same("16 least", room.wetnessOf(0), 0);
        for (int calls = 2; calls <= 6; calls++) {
            Check.same("17 slack", room.slackOf(1), Math.min(50, (100 * (calls - 1) - (calls > 2 ? calls - 2 : 0)) / 10));
            room.advance(99);
        }
        Check.same("17 greatest", room.slackOf(1), 50);
        room.setHumidity(100);
        room.advance(99);
        Check.same("16 greatest", room.wetnessOf(1), 100);
        Check.same("17 stays", room.slackOf(1), 50);
    }

    private static void water() {
        HygrometerRoom room = Rooms.of("room 50 0 0;bulb 2");
        room.advance(1);
        Check.same("18 one left", room.waterOf(0), 1);
        room.advance(1);
        Check.same("18 none left", room.waterOf(0), 0);
        room.advance(1);
        Check.same("18 never less", room.waterOf(0), 0);
        room.moisten(0);
        Check.same("18 greatest", room.waterOf(0), 60);
    }

    private static void depressionAndRaw() {
        int[][] due = {
            // humidity, temperature, depression, raw value
            {100, 0, 0, 100}, {0, 40, 50, 0}, {0, 0, 10, 0}, {50, 20, 15, 50}, {33, 20, 20, 34}, {97, 20, 0, 100},
            {99, 40, 0, 100}, {98, 40, 1, 98}, {75, 7, 4, 77}, {1, 0, 9, 10}, {60, 13, 9, 61},
        };
        for (int[] row : due) {
            HygrometerRoom room = Rooms.of("room " + row[0] + " " + row[1] + " 0;bulb 1;bulb 0;hair 3");
            String at = " at " + row[0] + " " + row[1];
            Check.same("19 depression" + at, room.depressionOf(0), row[2]);
            Check.same("23 raw value" + at, room.rawValue(0), row[3]);
            Check.same("24 reading" + at, room.readingOf(0), row[3]);
            Check.same("19 without water" + at, room.depressionOf(1), 0);
            Check.same("23 without water" + at, room.rawValue(1), 100);
            Check.same("23 wetness without slack" + at, room.rawValue(2), row[0]);
        }
        HygrometerRoom room = Rooms.of("room 50 20 0;bulb 9");
        room.putInBox(0, 0);
        Check.same("19 depression in the box", room.depressionOf(0), 20);
        Check.same("23 raw value in the box", room.rawValue(0), 34);
    }

    private static void zeroAndReading() {
        HygrometerRoom room = Rooms.of("room 0 0 0;hair 20;minutes 99;minutes 99;minutes 99");
        Check.same("17 slack", room.slackOf(0), 29);
        Check.same("23 negative", room.rawValue(0), -5);
        Check.same("24 at least 0", room.readingOf(0), 0);
        Check.same("20 no zero yet", room.zeroOf(0), 0);
        room.putInBox(0, 3);
        room.advance(99);
        Check.same("23 slack 39", room.rawValue(0), 90);
        room.calibrate(0);
        Check.same("20 zero", room.zeroOf(0), 7);
        Check.same("24 with zero", room.readingOf(0), 97);
        room.tighten(0);
        Check.same("23 without slack", room.rawValue(0), 97);
        Check.same("24 at most 100", room.readingOf(0), 100);
        HygrometerRoom bulb = Rooms.of("room 50 20 0;bulb 60;box 0 3");
        Check.same("23 dry air", bulb.rawValue(0), 100);
        bulb.calibrate(0);
        Check.same("20 negative zero", bulb.zeroOf(0), -3);
        bulb.takeOut(0);
        bulb.setHumidity(2);
        Check.same("23 near nothing", bulb.rawValue(0), 4);
        Check.same("24 raw value plus zero", bulb.readingOf(0), 1);
        bulb.setHumidity(0);
        Check.same("24 at least 0 with zero", bulb.readingOf(0), 0);
    }

    private static void boxAndSurrounding() {
        HygrometerRoom room = Rooms.of("room 11 0 0;hair 1;bulb 1");
        int[] due = {33, 43, 75, 97};
        for (int salt = 0; salt < 4; salt++) {
            Check.same("21 outside", room.boxOf(1), -1);
            Check.same("22 outside", room.surroundingOf(1), 11);
            room.putInBox(1, salt);
            Check.same("21 salt", room.boxOf(1), salt);
            Check.same("22 salt", room.surroundingOf(1), due[salt]);
            Check.same("21 the other", room.boxOf(0), -1);
            Check.same("22 the other", room.surroundingOf(0), 11);
            room.takeOut(1);
        }
        room.putInBox(0, 2);
        room.putInBox(1, 2);
        room.setHumidity(100);
        Check.same("22 two in a box", room.surroundingOf(0) + room.surroundingOf(1), 150);
        room.takeOut(0);
        Check.same("22 the room's new humidity", room.surroundingOf(0), 100);
    }

    private static void errors() {
        HygrometerRoom room = Rooms.of("room 40 20 0;hair 20;bulb 0;bulb 60");
        Check.same("25 none", room.errorOf(0), 0);
        Check.same("25 without water", room.errorOf(1), 60);
        room.setHumidity(90);
        Check.same("25 too dry", room.errorOf(0), -50);
        room.putInBox(0, 0);
        Check.same("25 in a box", room.errorOf(0), 7);
        room.setHumidity(0);
        Check.same("25 reading of at most 100", room.errorOf(1), 100);
        room.setHumidity(33);
        Check.same("25 rounding", room.errorOf(2), 1);
    }

    private static void settled() {
        HygrometerRoom room = Rooms.of("room 40 20 0;hair 20;bulb 0;bulb 60");
        Check.same("26 hair", room.isSettled(0), true);
        Check.same("26 no water", room.isSettled(1), false);
        Check.same("26 water", room.isSettled(2), true);
        room.setHumidity(43);
        Check.same("26 hair elsewhere", room.isSettled(0), false);
        room.advance(1);
        Check.same("26 hair nearly there", room.isSettled(0), false);
        room.advance(1);
        Check.same("26 hair there", room.isSettled(0), true);
        room.putInBox(0, 1);
        Check.same("26 a box of the same humidity", room.isSettled(0), true);
        HygrometerRoom bare = Rooms.of("room 10 20 0;hair 1;tighten 0");
        Check.same("26 without hairs", bare.isSettled(0), true);
        Check.same("26 without hairs, slack", bare.slackOf(0), 0);
    }

    private static void reasonsAndWeights() {
        HygrometerRoom room = Rooms.of("room 10 20 0;hair 1;hair 17;bulb 0;bulb 1;tighten 0");
        int[] flaws = {2, 0, 2, 0};
        int[] weights = {0, 17, 0, 5};
        for (int i = 0; i < 4; i++) {
            Check.same("27 " + i, room.whyUnusable(i), flaws[i]);
            Check.same("28 " + i, room.weightOf(i), weights[i]);
            room.putInBox(i, i);
            Check.same("27 in a box " + i, room.whyUnusable(i), 1);
            Check.same("28 in a box " + i, room.weightOf(i), 0);
            room.takeOut(i);
        }
        room.setHumidity(15);
        room.advance(99);
        room.advance(99);
        room.advance(61);
        Check.same("17 slack 25", room.slackOf(1), 25);
        Check.same("27 slack 25", room.whyUnusable(1), 0);
        Check.same("28 slack 25", room.weightOf(1), 17);
        room.advance(1);
        Check.same("17 slack 26", room.slackOf(1), 26);
        Check.same("27 slack 26", room.whyUnusable(1), 3);
        Check.same("28 slack 26", room.weightOf(1), 0);
        Check.same("27 slack without hairs", room.whyUnusable(0), 2);
        Check.same("17 slack without hairs", room.slackOf(0), 26);
        room.putInBox(1, 0);
        Check.same("27 slack in a box", room.whyUnusable(1), 1);
        room.takeOut(1);
        room.tighten(1);
        Check.same("28 a hair less", room.weightOf(1), 16);
    }

    private static void obstacles() {
        HygrometerRoom room = Rooms.of("room 10 20 0;hair 20;bulb 1;bulb 0");
        for (int i = 0; i < 3; i++) {
            Check.same("29 outside " + i, room.calibrationObstacle(i), 1);
        }
        room.putInBox(0, 0);
        room.putInBox(1, 0);
        room.putInBox(2, 0);
        Check.same("29 hair not settled", room.calibrationObstacle(0), 2);
        Check.same("29 water", room.calibrationObstacle(1), 0);
        Check.same("29 no water", room.calibrationObstacle(2), 2);
        room.advance(11);
        Check.same("29 hair not quite settled", room.calibrationObstacle(0), 2);
        room.advance(1);
        Check.same("29 hair settled", room.calibrationObstacle(0), 0);
        Check.same("29 water gone", room.calibrationObstacle(1), 2);
    }

    private static void noSuchInstrument() {
        refuses("13 isHair", HygrometerRoom::isHair);
        refuses("14 hairsOf", HygrometerRoom::hairsOf);
        refuses("15 brokenOf", HygrometerRoom::brokenOf);
        refuses("16 wetnessOf", HygrometerRoom::wetnessOf);
        refuses("17 slackOf", HygrometerRoom::slackOf);
        refuses("18 waterOf", HygrometerRoom::waterOf);
        refuses("19 depressionOf", HygrometerRoom::depressionOf);
        refuses("20 zeroOf", HygrometerRoom::zeroOf);
        refuses("21 boxOf", HygrometerRoom::boxOf);
        refuses("22 surroundingOf", HygrometerRoom::surroundingOf);
        refuses("23 rawValue", HygrometerRoom::rawValue);
        refuses("24 readingOf", HygrometerRoom::readingOf);
        refuses("25 errorOf", HygrometerRoom::errorOf);
        refuses("26 isSettled", HygrometerRoom::isSettled);
        refuses("27 whyUnusable", HygrometerRoom::whyUnusable);
        refuses("28 weightOf", HygrometerRoom::weightOf);
        refuses("29 calibrationObstacle", HygrometerRoom::calibrationObstacle);
    }

    private static void refuses(String what, ObjIntConsumer<HygrometerRoom> question) {
        for (int number : new int[] {-1, 4, 5, 6, 7, Integer.MIN_VALUE, Integer.MAX_VALUE}) {
            HygrometerRoom room = new HygrometerRoom();
            Check.refuses(what + " of " + number, IndexOutOfBoundsException.class, room,
                    () -> question.accept(room, number));
        }
        HygrometerRoom empty = Rooms.of("room 0 0 0");
        Check.refuses(what + " of 0 of none", IndexOutOfBoundsException.class, empty, () -> question.accept(empty, 0));
        HygrometerRoom full = Rooms.of("room 0 0 0;bulb 1;bulb 1;bulb 1;bulb 1;bulb 1;bulb 1");
        question.accept(full, 5);
        Check.refuses(what + " of 6 of 6", IndexOutOfBoundsException.class, full, () -> question.accept(full, 6));
    }
}
