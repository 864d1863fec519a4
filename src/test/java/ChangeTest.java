import java.util.function.IntConsumer;

/** Promises 41 to 50: the changes, what they answer, and what they refuse. */
public final class ChangeTest {
    private static final Class<IndexOutOfBoundsException> NO_INDEX = IndexOutOfBoundsException.class;
    private static final Class<IllegalArgumentException> NO_ARGUMENT = IllegalArgumentException.class;
    private static final Class<IllegalStateException> NO_STATE = IllegalStateException.class;
    private static final int[] FAR = {Integer.MIN_VALUE, Integer.MAX_VALUE};

    public static void main(String[] args) {
        advanceMoves();
        advanceBrings();
        advanceRefuses();
        advanceInOrder();
        setters();
        boxes();
        boxesRefuse();
        calibrates();
        tightens();
        moistens();
        addsHairs();
        addHairsRefuses();
        noSuchInstrument();
        Check.finish("ChangeTest");
    }

    /** Each number of hairs has a step of its own; the last step is the rest of the way. */
    private static void advanceMoves() {
        for (int hairs = 1; hairs <= 20; hairs++) {
            HygrometerRoom room = Rooms.of("room 50 20 0;hair " + hairs);
            int step = 1 + 20 / hairs;
            room.setHumidity(100);
            room.advance(1);
            Check.same("41 up with " + hairs, room.wetnessOf(0), 50 + step);
            room.setHumidity(0);
            room.advance(2);
            Check.same("41 down with " + hairs, room.wetnessOf(0), 50 - step);
            room.setHumidity(51 - step);
            room.advance(1);
            Check.same("41 the rest with " + hairs, room.wetnessOf(0), 51 - step);
            room.advance(1);
            Check.same("41 stays with " + hairs, room.wetnessOf(0), 51 - step);
        }
        HygrometerRoom bare = Rooms.of("room 10 20 0;hair 1;tighten 0;humidity 50;bulb 1");
        bare.advance(10);
        Check.same("41 without hairs", Rooms.instrument(bare, 0),
                "hair 0 broken 1 wetness 10 slack 1 zero 0 box -1");
        Check.same("41 without water", bare.waterOf(1), 0);
    }

    private static void advanceBrings() {
        for (int skill = 0; skill <= 5; skill++) {
            HygrometerRoom room = Rooms.of("room 50 20 " + skill + ";minutes 58");
            Check.same("41 minute 59", room.advance(1), 0);
            Check.same("41 minute 60", room.advance(1), skill);
            Check.same("41 minute 159", room.advance(99), skill);
            Check.same("10 stock", room.hairStock(), 2 * skill);
        }
        HygrometerRoom room = Rooms.of("room 50 20 5");
        int brought = 0;
        for (int calls = 1; calls <= 12; calls++) {
            brought += room.advance(99);
        }
        Check.same("41 up to minute 1188", brought, 95);
        Check.same("41 minute 1200", room.advance(12), 4);
        Check.same("10 full", room.hairStock(), 99);
        Check.same("41 minute 1260", room.advance(60), 0);
        Check.same("10 still full", room.hairStock(), 99);
        room.setSkill(3);
        HygrometerRoom two = Rooms.of("room 50 20 1;minutes 21");
        Check.same("41 twice in 99 minutes", two.advance(99), 2);
    }

    private static void advanceRefuses() {
        HygrometerRoom room = new HygrometerRoom();
        refuses("41 minutes", NO_ARGUMENT, new int[] {0, -1, 100, FAR[0], FAR[1]}, room, room::advance);
        HygrometerRoom late = Rooms.of("room 50 20 0");
        for (int calls = 1; calls <= 100; calls++) {
            late.advance(99);
        }
        late.advance(98);
        Check.same("6 minute", late.minute(), 9998);
        Check.refuses("41 two more", NO_STATE, late, () -> late.advance(2));
        Check.refuses("41 99 more", NO_STATE, late, () -> late.advance(99));
        Check.refuses("41 100 more", NO_ARGUMENT, late, () -> late.advance(100));
        late.advance(1);
        Check.same("6 last minute", late.minute(), 9999);
        Check.refuses("41 one more", NO_STATE, late, () -> late.advance(1));
        Check.refuses("41 none more", NO_ARGUMENT, late, () -> late.advance(0));
    }

    /** The slack grows at each tenth minute, up to 50. */
    private static void advanceInOrder() {
        HygrometerRoom room = Rooms.of("room 50 20 0;hair 9");
        for (int minute = 1; minute <= 20; minute++) {
            room.advance(1);
            Check.same("41 slack at " + minute, room.slackOf(0), minute / 10);
            Check.same("6 minute", room.minute(), minute);
        }
        for (int calls = 0; calls < 6; calls++) {
            room.advance(80);
        }
        Check.same("41 slack at 500", room.slackOf(0), 50);
        room.advance(10);
        Check.same("41 slack at 510", room.slackOf(0), 50);
    }

    private static void setters() {
        HygrometerRoom room = new HygrometerRoom();
        Check.same("42 before", room.setHumidity(0), 50);
        Check.same("42 before", room.setHumidity(100), 0);
        Check.same("42 before", room.setHumidity(100), 100);
        Check.same("7 set", room.humidity(), 100);
        Check.same("43 before", room.setTemperature(0), 20);
        Check.same("43 before", room.setTemperature(40), 0);
        Check.same("8 set", room.temperature(), 40);
        Check.same("44 before", room.setSkill(0), 2);
        Check.same("44 before", room.setSkill(5), 0);
        Check.same("9 set", room.skill(), 5);
        Check.same("42 moves no wetness", room.wetnessOf(0), 50);
        Check.same("42 to 44 are recorded", room.undo(), 6);
        HygrometerRoom humid = new HygrometerRoom();
        refuses("42", NO_ARGUMENT, new int[] {-1, 101, FAR[0], FAR[1]}, humid, humid::setHumidity);
        Check.fails("42 records nothing when refused", NO_STATE, humid::undo);
        HygrometerRoom warm = new HygrometerRoom();
        refuses("43", NO_ARGUMENT, new int[] {-1, 41, FAR[0], FAR[1]}, warm, warm::setTemperature);
        Check.fails("43 records nothing when refused", NO_STATE, warm::undo);
        HygrometerRoom skilled = new HygrometerRoom();
        refuses("44", NO_ARGUMENT, new int[] {-1, 6, FAR[0], FAR[1]}, skilled, skilled::setSkill);
        Check.fails("44 records nothing when refused", NO_STATE, skilled::undo);
    }

    private static void refuses(String what, Class<? extends RuntimeException> due, int[] values,
            HygrometerRoom room, IntConsumer call) {
        for (int value : values) {
            Check.refuses(what + " of " + value, due, room, () -> call.accept(value));
        }
    }

    private static void boxes() {
        HygrometerRoom room = Rooms.of("room 50 20 0;hair 9;bulb 9;bulb 9;bulb 9;bulb 9;hair 1");
        int[] due = {33, 43, 75, 97};
        for (int i = 0; i < 6; i++) {
            Check.same("45 fixed point", room.putInBox(i, i % 4), due[i % 4]);
            Check.same("21 box", room.boxOf(i), i % 4);
        }
        for (int i = 0; i < 6; i++) {
            Check.same("46 salt", room.takeOut(i), i % 4);
            Check.same("21 outside", room.boxOf(i), -1);
            Check.same("45 all in one box", room.putInBox(i, 2), 75);
        }
        room.advance(1);
        Check.same("41 in the box", room.wetnessOf(0), 53);
        Check.same("16 outside", Rooms.of("room 50 20 0;hair 9;minutes 1").wetnessOf(0), 50);
    }

    private static void boxesRefuse() {
        HygrometerRoom room = new HygrometerRoom();
        refuses("45 salt", NO_ARGUMENT, new int[] {-1, 4, FAR[0], FAR[1]}, room, salt -> room.putInBox(0, salt));
        Check.refuses("45 boxed and salt", NO_ARGUMENT, room, () -> room.putInBox(1, 4));
        Check.refuses("45 number and salt", NO_INDEX, room, () -> room.putInBox(4, 4));
        HygrometerRoom other = new HygrometerRoom();
        Check.refuses("45 boxed", NO_STATE, other, () -> other.putInBox(1, 0));
        Check.refuses("45 boxed with this salt", NO_STATE, other, () -> other.putInBox(1, 2));
        Check.refuses("46 outside", NO_STATE, other, () -> other.takeOut(0));
        Check.fails("45 and 46 record nothing when refused", NO_STATE, other::undo);
    }

    private static void calibrates() {
        HygrometerRoom room = Rooms.of("room 50 20 0;hair 20;bulb 60;bulb 0;minutes 50");
        Check.refuses("47 outside", NO_STATE, room, () -> room.calibrate(0));
        room.putInBox(0, 0);
        Check.refuses("47 not settled", NO_STATE, room, () -> room.calibrate(0));
        room.putInBox(2, 0);
        Check.refuses("47 without water", NO_STATE, room, () -> room.calibrate(2));
        room.advance(9);
        Check.same("47 before", room.calibrate(0), 0);
        Check.same("20 zero", room.zeroOf(0), 1);
        Check.same("24 the fixed point", room.readingOf(0), 33);
        room.advance(40);
        Check.same("24 slack 9", room.readingOf(0), 33);
        room.advance(1);
        Check.same("24 slack 10", room.readingOf(0), 32);
        Check.same("47 from the raw value", room.calibrate(0), 1);
        Check.same("20 zero, the old one does not count", room.zeroOf(0), 2);
        HygrometerRoom bulb = Rooms.of("room 50 20 0;bulb 60;box 0 3");
        Check.same("47 bulb before", bulb.calibrate(0), 0);
        Check.same("47 bulb again", bulb.calibrate(0), -3);
        Check.same("20 zero of the bulb", bulb.zeroOf(0), -3);
        Check.same("47 is recorded", bulb.undo(), 1);
    }

    private static void tightens() {
        HygrometerRoom room = Rooms.of("room 20 20 0;hair 2;hair 2;bulb 5;minutes 30");
        Check.same("48 before", room.tighten(0), 3);
        Check.same("48 wetness 20", Rooms.instrument(room, 0), "hair 2 broken 0 wetness 20 slack 0 zero 0 box -1");
        room.setHumidity(19);
        Check.same("48 before", room.tighten(0), 0);
        Check.same("48 the wetness counts", room.hairsOf(0), 2);
        room.advance(10);
        Check.same("48 before", room.tighten(0), 1);
        Check.same("48 wetness 19", Rooms.instrument(room, 0), "hair 1 broken 1 wetness 19 slack 0 zero 0 box -1");
        Check.same("48 before", room.tighten(0), 0);
        Check.same("48 the last hair", Rooms.instrument(room, 0), "hair 0 broken 2 wetness 19 slack 0 zero 0 box -1");
        Check.same("48 the other", Rooms.instrument(room, 1), "hair 2 broken 0 wetness 19 slack 4 zero 0 box -1");
        Check.refuses("48 without hairs", NO_STATE, room, () -> room.tighten(0));
        Check.refuses("48 a wet bulb", NO_STATE, room, () -> room.tighten(2));
        Check.same("48 and 42 and 41 are recorded", room.undo(), 5);
        Check.same("48 undone", Rooms.instrument(room, 0), "hair 1 broken 1 wetness 19 slack 0 zero 0 box -1");
    }

    private static void moistens() {
        HygrometerRoom room = Rooms.of("room 20 20 0;hair 2;bulb 0;bulb 7;bulb 60");
        Check.same("49 none before", room.moisten(1), 0);
        Check.same("49 some before", room.moisten(2), 7);
        Check.same("49 all before", room.moisten(3), 60);
        for (int i = 1; i < 4; i++) {
            Check.same("18 water", room.waterOf(i), 60);
        }
        Check.refuses("49 a hair", NO_STATE, room, () -> room.moisten(0));
        room.putInBox(1, 2);
        room.advance(9);
        Check.same("49 in a box", room.moisten(1), 51);
    }

    private static void addsHairs() {
        HygrometerRoom room = Rooms.of("room 20 20 5;hair 2;bulb 3;minutes 99;minutes 99;minutes 99");
        Check.same("10 stock", room.hairStock(), 20);
        Check.same("50 one", room.addHairs(0, 1), 3);
        Check.same("10 one less", room.hairStock(), 19);
        Check.same("50 up to 20", room.addHairs(0, 17), 20);
        Check.same("10 two left", room.hairStock(), 2);
        Check.same("14 hairs", room.hairsOf(0), 20);
        Check.same("50 is recorded", room.undo(), 1);
        Check.same("10 undone", room.hairStock(), 19);
        HygrometerRoom bare = Rooms.of("room 0 20 5;hair 1;tighten 0;minutes 99;minutes 99;minutes 99");
        bare.putInBox(0, 0);
        Check.same("50 all twenty", bare.addHairs(0, 20), 20);
        Check.same("10 none left", bare.hairStock(), 0);
        Check.same("15 broken stay", bare.brokenOf(0), 1);
        Check.same("17 slack stays", bare.slackOf(0), 29);
    }

    private static void addHairsRefuses() {
        HygrometerRoom room = Rooms.of("room 20 20 5;hair 15;hair 16;bulb 3;minutes 60");
        refuses("50 hairs", NO_ARGUMENT, new int[] {0, -1, 21, FAR[0], FAR[1]}, room, hairs -> room.addHairs(0, hairs));
        Check.refuses("50 a wet bulb", NO_STATE, room, () -> room.addHairs(2, 1));
        HygrometerRoom other = Rooms.of("room 20 20 5;hair 15;hair 16;hair 1;bulb 3;minutes 60");
        Check.refuses("50 a wet bulb and hairs", NO_ARGUMENT, other, () -> other.addHairs(3, 21));
        Check.refuses("50 number and hairs", NO_INDEX, other, () -> other.addHairs(4, 21));
        Check.refuses("50 stock 5", NO_STATE, other, () -> other.addHairs(2, 6));
        Check.refuses("50 more than 20", NO_STATE, other, () -> other.addHairs(1, 5));
        Check.same("50 just 20", other.addHairs(0, 5), 20);
        Check.refuses("50 no stock", NO_STATE, other, () -> other.addHairs(2, 1));
        Check.same("50 records nothing when refused", other.undo(), 0);
    }

    private static void noSuchInstrument() {
        for (int number : new int[] {-1, 4, 5, 6, FAR[0], FAR[1]}) {
            HygrometerRoom room = new HygrometerRoom();
            Check.refuses("45 of " + number, NO_INDEX, room, () -> room.putInBox(number, 0));
            Check.refuses("46 of " + number, NO_INDEX, room, () -> room.takeOut(number));
            Check.refuses("47 of " + number, NO_INDEX, room, () -> room.calibrate(number));
            HygrometerRoom other = new HygrometerRoom();
            Check.refuses("48 of " + number, NO_INDEX, other, () -> other.tighten(number));
            Check.refuses("49 of " + number, NO_INDEX, other, () -> other.moisten(number));
            Check.refuses("50 of " + number, NO_INDEX, other, () -> other.addHairs(number, 1));
        }
    }
}
