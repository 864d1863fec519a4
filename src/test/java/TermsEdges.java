import java.lang.reflect.Method;

/** Boundary cases of "Terms", "Room and salts", "Instruments", "Blend" and "Calibration". */
final class TermsEdges {
    private static final Class<IndexOutOfBoundsException> NO_INDEX = IndexOutOfBoundsException.class;
    private static final Class<IllegalArgumentException> NO_ARGUMENT = IllegalArgumentException.class;
    private static final int[] FIXED = {33, 43, 75, 97};

    private TermsEdges() {
    }

    static void run() {
        terms();
        roomAndSalts();
        instruments();
        rawValuesAndReadings();
        blend();
        calibration();
    }

    private static void terms() {
        Sentences.in("Terms");
        Sentences.hold("The room is set up by a text that is parsed from a byte buffer.", TermsEdges::anyTextLength);
        Sentences.hold("Every change can be undone, and two states can be saved.", TermsEdges::twoStates);
        Sentences.hold("All numbers are integers unless a method returns double or float.", TermsEdges::integers);
        Sentences.hold("Every integer division truncates.", TermsEdges::truncates);
    }

    private static void roomAndSalts() {
        Sentences.in("Room and salts");
        Sentences.hold("The room has a humidity (0 to 100) and a temperature (0 to 40).", TermsEdges::roomRanges);
        Sentences.hold("There are four salts, numbered from 0 to 3, with the fixed points 33, 43, 75 and 97.",
                TermsEdges::salts);
        Sentences.hold("For each salt there is a box that has room for all instruments; the humidity in a box is"
                + " always its fixed point.", TermsEdges::fullBoxes);
    }

    private static void instruments() {
        Sentences.in("Instruments");
        Sentences.hold("There are at most 6 instruments, numbered from 0.", TermsEdges::atMostSix);
        Sentences.hold("Each of them is a hair hygrometer or a wet bulb.", TermsEdges::twoKinds);
        Sentences.hold("An instrument is in a salt box or outside (at first outside).", TermsEdges::firstOutside);
        Sentences.hold("Its surrounding humidity is the fixed point of its box, or the humidity of the room if it is"
                + " outside.", TermsEdges::surroundings);
        Sentences.hold("An instrument has a zero (0 at first).", TermsEdges::firstZero);
        Sentences.hold("A hair hygrometer has a number of hairs (1 to 20 at first), a number of broken hairs (0 at"
                + " first), a wetness (at first its surrounding humidity), and a slack from 0 to 50 (0 at first).",
                TermsEdges::firstHairs);
        Sentences.hold("A wet bulb has an amount of water from 0 to 60.", TermsEdges::waterRange);
    }

    private static void rawValuesAndReadings() {
        Sentences.in("Instruments");
        Sentences.hold("Its raw value is its wetness minus a part, which is its slack divided by 5.",
                TermsEdges::slackPart);
        Sentences.hold("Its depression is (100 minus its surrounding humidity) times (the temperature plus 10),"
                + " divided by 100; without water the depression is 0.", TermsEdges::depression);
        Sentences.hold("Its raw value is 100 minus a part, which is its depression times 100, divided by (the"
                + " temperature plus 10).", TermsEdges::bulbRaw);
        Sentences.hold("The reading of an instrument is its raw value plus its zero, but at least 0 and at most 100.",
                TermsEdges::readingEnds);
        Sentences.hold("A hair hygrometer is settled if its wetness is its surrounding humidity.",
                TermsEdges::hairSettled);
        Sentences.hold("A wet bulb is settled if it has water.", TermsEdges::bulbSettled);
    }

    private static void blend() {
        Sentences.in("Blend");
        Sentences.hold("An instrument is unusable for the first of these reasons that applies:",
                TermsEdges::allReasons);
        Sentences.hold("1: it is in a salt box.", TermsEdges::reasonOne);
        Sentences.hold("2: it is a hair hygrometer without hairs, or a wet bulb without water.",
                TermsEdges::reasonTwo);
        Sentences.hold("3: it is a hair hygrometer with a slack greater than 25.", TermsEdges::reasonThree);
        Sentences.hold("The weight of a usable instrument is its number of hairs, or 5 if it is a wet bulb; the"
                + " weight of an unusable instrument is 0.", TermsEdges::weights);
        Sentences.hold("The blend is the sum of the readings times the weights of all instruments, divided by the sum"
                + " of the weights; there is no blend if no instrument is usable.", TermsEdges::blends);
    }

    private static void calibration() {
        Sentences.in("Calibration");
        Sentences.hold("To calibrate an instrument means to set its zero to its surrounding humidity minus its raw"
                + " value.", TermsEdges::newZero);
        Sentences.hold("There is an obstacle to that for the first of these reasons that applies: 1 it is not in a"
                + " salt box, 2 it is not settled.", TermsEdges::obstacles);
    }

    private static void anyTextLength() {
        HygrometerRoom room = new HygrometerRoom();
        Check.same("the shortest text", Rooms.load(room, "room 0 1 2"), 0);
        Check.same("its temperature", room.temperature(), 1);
        String longest = "room 3 4 5;bulb 6" + " ".repeat(582) + "\n";
        Check.same("its length", longest.length(), 600);
        Check.same("a text of 600 bytes", Rooms.load(room, longest), 1);
        Check.same("its humidity", room.humidity(), 3);
        Check.same("its water", room.waterOf(0), 6);
    }

    private static void twoStates() {
        HygrometerRoom room = Rooms.of("room 1 0 0");
        Check.same("the first", room.save(0), 0);
        room.setHumidity(2);
        room.advance(1);
        Check.same("the second", room.save(1), 1);
        Check.refuses("none before the first", NO_INDEX, room, () -> room.save(-1));
        Check.refuses("no third", NO_INDEX, room, () -> room.save(2));
        room.restore(0);
        Check.same("the first state", room.humidity(), 1);
        room.restore(1);
        Check.same("the second state", room.humidity(), 2);
        for (int left = 3; left >= 0; left--) {
            Check.same("undone", room.undo(), left);
        }
        Check.same("all is undone", Rooms.state(room), Rooms.state(Rooms.of("room 1 0 0")));
    }

    private static void integers() {
        for (Method method : HygrometerRoom.class.getDeclaredMethods()) {
            if (java.lang.reflect.Modifier.isPublic(method.getModifiers())) {
                String due = switch (method.getName()) {
                    case "meanReading" -> "double";
                    case "usableShare" -> "float";
                    case "isHair", "isSettled" -> "boolean";
                    default -> "int";
                };
                Check.same("type of " + method.getName(), method.getReturnType().getName(), due);
                for (Class<?> parameter : method.getParameterTypes()) {
                    Check.same("parameter of " + method.getName(), parameter.getName(), "int");
                }
            }
        }
    }

    /** One less than what divides evenly loses a whole, in each division of the document. */
    private static void truncates() {
        HygrometerRoom slack = Rooms.of("room 50 0 0;hair 9;minutes 49");
        Check.same("slack 4 by 5", slack.rawValue(0), 50);
        slack.advance(1);
        Check.same("slack 5 by 5", slack.rawValue(0), 49);
        Check.same("20 by 20 hairs", moved(20), 2);
        Check.same("20 by 11 hairs", moved(11), 2);
        Check.same("20 by 10 hairs", moved(10), 3);
        Check.same("99 by 100", Rooms.of("room 91 1 0;bulb 1").depressionOf(0), 0);
        Check.same("100 by 100", Rooms.of("room 90 0 0;bulb 1").depressionOf(0), 1);
        Check.same("1400 by 15", Rooms.of("room 3 5 0;bulb 1").rawValue(0), 7);
        HygrometerRoom blend = Rooms.of("room 4 0 0;hair 2;humidity 0;hair 1");
        Check.same("8 by 3", blend.blend(), 2);
        Check.same("4 by 2, as a double", blend.meanReading(), 2.0);
        Check.same("7 by 2, as a double", Rooms.of("room 7 0 0;hair 2;humidity 0;hair 1").meanReading(), 3.5);
    }

    private static int moved(int hairs) {
        HygrometerRoom room = Rooms.of("room 0 0 0;hair " + hairs + ";humidity 100;minutes 1");
        return room.wetnessOf(0);
    }

    private static void roomRanges() {
        HygrometerRoom room = new HygrometerRoom();
        int[][] good = {{0, 0}, {1, 1}, {99, 39}, {100, 40}};
        for (int[] pair : good) {
            Rooms.load(room, "room " + pair[0] + " " + pair[1] + " 0");
            Check.same("humidity of the text", room.humidity(), pair[0]);
            Check.same("temperature of the text", room.temperature(), pair[1]);
        }
        for (int humidity : new int[] {-1, 101}) {
            Check.refuses("humidity " + humidity, NO_ARGUMENT, room, () -> room.setHumidity(humidity));
        }
        for (int temperature : new int[] {-1, 41}) {
            Check.refuses("temperature " + temperature, NO_ARGUMENT, room, () -> room.setTemperature(temperature));
        }
        TextEdges.bad("room 101 40 0", 2, 5);
        TextEdges.bad("room 100 41 0", 2, 9);
    }

    private static void salts() {
        HygrometerRoom room = Rooms.of("room 0 0 0;bulb 1;bulb 1;bulb 1;bulb 1;box 0 0;box 1 1;box 2 2;box 3 3");
        for (int salt = 0; salt < 4; salt++) {
            Check.same("fixed point of " + salt, room.fixedPoint(salt), FIXED[salt]);
            Check.same("box " + salt, room.boxOf(salt), salt);
        }
        Check.refuses("salt -1", NO_ARGUMENT, room, () -> room.fixedPoint(-1));
        Check.refuses("salt 4", NO_ARGUMENT, room, () -> room.fixedPoint(4));
        TextEdges.bad("room 0 0 0;bulb 1;box 0 4", 2, 24);
    }

    private static void fullBoxes() {
        for (int salt = 0; salt < 4; salt++) {
            HygrometerRoom room = Rooms.of("room 0 0 0;hair 1;bulb 1;hair 2;bulb 0;hair 3;bulb 60");
            for (int i = 0; i < 6; i++) {
                Check.same("instrument " + i, room.putInBox(i, salt), FIXED[salt]);
            }
            room.setHumidity(100);
            room.advance(99);
            for (int i = 0; i < 6; i++) {
                Check.same("box of " + i, room.boxOf(i), salt);
                Check.same("humidity around " + i, room.surroundingOf(i), FIXED[salt]);
            }
        }
    }

    private static void atMostSix() {
        HygrometerRoom room = Rooms.of("room 0 0 0;hair 1;bulb 2;hair 3;bulb 4;hair 5;bulb 6");
        Check.same("six", room.instrumentCount(), 6);
        Check.same("number 0", room.hairsOf(0), 1);
        Check.same("number 5", room.waterOf(5), 6);
        Check.refuses("number -1", NO_INDEX, room, () -> room.isHair(-1));
        Check.refuses("number 6", NO_INDEX, room, () -> room.isHair(6));
        TextEdges.bad("room 0 0 0;hair 1;bulb 2;hair 3;bulb 4;hair 5;bulb 6;hair 7", 4, 53);
        HygrometerRoom none = Rooms.of("room 0 0 0");
        Check.same("none", none.instrumentCount(), 0);
        Check.refuses("number 0 of none", NO_INDEX, none, () -> none.isHair(0));
    }

    private static void twoKinds() {
        HygrometerRoom room = Rooms.of("room 9 0 0;hair 1;tighten 0;bulb 0");
        Check.same("a hair hygrometer without hairs", room.isHair(0), true);
        Check.same("its water", room.waterOf(0), -1);
        Check.same("a wet bulb without water", room.isHair(1), false);
        Check.same("its hairs", room.hairsOf(1), -1);
    }

    private static void firstOutside() {
        HygrometerRoom room = Rooms.of("room 33 0 0;hair 1;bulb 1;box 0 0;bulb 1;hair 1;out 0;box 3 3");
        int[] due = {-1, -1, -1, 3};
        for (int i = 0; i < 4; i++) {
            Check.same("box of " + i, room.boxOf(i), due[i]);
        }
    }

    private static void surroundings() {
        HygrometerRoom room = Rooms.of("room 0 0 0;hair 1;bulb 1;box 1 3");
        Check.same("outside at 0", room.surroundingOf(0), 0);
        Check.same("in the box at 0", room.surroundingOf(1), 97);
        room.setHumidity(100);
        Check.same("outside at 100", room.surroundingOf(0), 100);
        Check.same("in the box at 100", room.surroundingOf(1), 97);
        room.takeOut(1);
        Check.same("out of the box", room.surroundingOf(1), 100);
        room.putInBox(1, 0);
        Check.same("in another box", room.surroundingOf(1), 33);
    }

    private static void firstZero() {
        HygrometerRoom room = Rooms.of("room 97 0 0;hair 1;bulb 1;box 1 3");
        Check.same("of a hair hygrometer", room.zeroOf(0), 0);
        Check.same("of a wet bulb", room.zeroOf(1), 0);
        room.calibrate(1);
        Check.same("of the calibrated one", room.zeroOf(1), -3);
        Check.same("of the other one", room.zeroOf(0), 0);
        Rooms.load(room, "room 97 0 0;hair 1;bulb 1");
        Check.same("of a new one", room.zeroOf(1), 0);
    }

    private static void firstHairs() {
        HygrometerRoom room = Rooms.of("room 0 0 0;hair 1;humidity 100;hair 20");
        Check.same("1", Rooms.instrument(room, 0), "hair 1 broken 0 wetness 0 slack 0 zero 0 box -1");
        Check.same("20", Rooms.instrument(room, 1), "hair 20 broken 0 wetness 100 slack 0 zero 0 box -1");
        TextEdges.bad("room 0 0 0;hair 0", 2, 16);
        TextEdges.bad("room 0 0 0;hair 21", 2, 16);
        Rooms.pass(room, 499);
        Check.same("slack before 50", room.slackOf(1), 49);
        Rooms.pass(room, 1);
        Check.same("slack 50", room.slackOf(1), 50);
        Rooms.pass(room, 10);
        Check.same("slack no more", room.slackOf(1), 50);
    }

    private static void waterRange() {
        HygrometerRoom room = Rooms.of("room 0 0 0;bulb 0;bulb 1;bulb 59;bulb 60;minutes 1");
        int[] due = {0, 0, 58, 59};
        for (int i = 0; i < 4; i++) {
            Check.same("water of " + i, room.waterOf(i), due[i]);
            room.moisten(i);
            Check.same("moistened " + i, room.waterOf(i), 60);
        }
        TextEdges.bad("room 0 0 0;bulb 61", 2, 16);
    }

    private static void slackPart() {
        HygrometerRoom room = Rooms.of("room 9 0 0;hair 1");
        for (int slack = 0; slack <= 51; slack++) {
            int part = Math.min(50, slack) / 5;
            Check.same("slack " + slack, room.rawValue(0), 9 - part);
            room.advance(10);
        }
        Check.same("below 0", room.rawValue(0), -1);
        room.tighten(0);
        Check.same("without slack", room.rawValue(0), 9);
    }

    private static void depression() {
        int[][] due = {
            // humidity, temperature, depression
            {100, 0, 0}, {100, 40, 0}, {0, 0, 10}, {0, 40, 50}, {99, 40, 0}, {98, 40, 1}, {90, 0, 1}, {91, 0, 0},
            {1, 0, 9}, {1, 40, 49}, {2, 39, 48},
        };
        HygrometerRoom room = new HygrometerRoom();
        for (int[] row : due) {
            String at = " at " + row[0] + " and " + row[1];
            Rooms.load(room, "room " + row[0] + " " + row[1] + " 0;bulb 1;bulb 0;bulb 60");
            Check.same("with the last water" + at, room.depressionOf(0), row[2]);
            Check.same("without water" + at, room.depressionOf(1), 0);
            Check.same("with all water" + at, room.depressionOf(2), row[2]);
        }
        room.putInBox(0, 3);
        room.setTemperature(23);
        Check.same("in a box, 99 by 100", room.depressionOf(0), 0);
        room.setTemperature(24);
        Check.same("in a box, 102 by 100", room.depressionOf(0), 1);
        room.advance(1);
        Check.same("dried", room.depressionOf(0), 0);
    }

    private static void bulbRaw() {
        int[][] due = {
            // humidity, temperature, raw value
            {0, 0, 0}, {0, 40, 0}, {100, 0, 100}, {100, 40, 100}, {99, 40, 100}, {98, 40, 98}, {1, 0, 10},
            {1, 40, 2}, {50, 1, 55}, {97, 0, 100},
        };
        HygrometerRoom room = new HygrometerRoom();
        for (int[] row : due) {
            String at = " at " + row[0] + " and " + row[1];
            Rooms.load(room, "room " + row[0] + " " + row[1] + " 0;bulb 1;bulb 0");
            Check.same("with water" + at, room.rawValue(0), row[2]);
            Check.same("without water" + at, room.rawValue(1), 100);
        }
    }

    /** The zero is 4 above; at the other end the slack takes 1 away. */
    private static void readingEnds() {
        HygrometerRoom low = Rooms.of("room 0 0 0;hair 20;minutes 49");
        Check.same("raw value 0", low.readingOf(0), 0);
        low.advance(1);
        Check.same("the raw value", low.rawValue(0), -1);
        Check.same("raw value -1", low.readingOf(0), 0);
        low.setHumidity(2);
        low.advance(1);
        Check.same("raw value 1", low.readingOf(0), 1);
        HygrometerRoom high = Rooms.of("room 97 0 0;hair 20;minutes 99;minutes 99;minutes 2;box 0 3");
        Check.same("zero before", high.calibrate(0), 0);
        Check.same("zero", high.zeroOf(0), 4);
        high.tighten(0);
        Check.same("97 plus 4", high.readingOf(0), 100);
        high.takeOut(0);
        high.setHumidity(96);
        high.advance(1);
        Check.same("96 plus 4", high.readingOf(0), 100);
        high.setHumidity(95);
        high.advance(1);
        Check.same("95 plus 4", high.readingOf(0), 99);
        HygrometerRoom bulb = Rooms.of("room 4 40 0;bulb 60;box 0 0");
        bulb.calibrate(0);
        Check.same("zero of the bulb", bulb.zeroOf(0), -1);
        bulb.takeOut(0);
        bulb.setHumidity(0);
        Check.same("0 minus 1", bulb.readingOf(0), 0);
        bulb.setHumidity(2);
        Check.same("2 minus 1", bulb.readingOf(0), 1);
    }

    private static void hairSettled() {
        HygrometerRoom room = Rooms.of("room 33 0 0;hair 20;hair 1;box 1 0");
        int[] humidities = {32, 33, 34};
        for (int humidity : humidities) {
            room.setHumidity(humidity);
            Check.same("33 outside at " + humidity, room.isSettled(0), humidity == 33);
            Check.same("33 in the box at " + humidity, room.isSettled(1), true);
        }
        room.advance(1);
        Check.same("moved", room.isSettled(0), true);
        room.putInBox(0, 0);
        Check.same("34 in the box", room.isSettled(0), false);
    }

    private static void bulbSettled() {
        HygrometerRoom room = Rooms.of("room 33 0 0;bulb 0;bulb 1;bulb 60;box 2 3");
        Check.same("water 0", room.isSettled(0), false);
        Check.same("water 1", room.isSettled(1), true);
        Check.same("water 60", room.isSettled(2), true);
        room.advance(1);
        Check.same("dried", room.isSettled(1), false);
        room.moisten(0);
        Check.same("moistened", room.isSettled(0), true);
    }

    /** All three reasons apply to one instrument; they are taken away one by one. */
    private static void allReasons() {
        HygrometerRoom room = Rooms.of("room 10 0 5;hair 1;tighten 0;minutes 99;minutes 99;minutes 99;box 0 2");
        Check.same("all three", room.whyUnusable(0), 1);
        room.takeOut(0);
        Check.same("two and three", room.whyUnusable(0), 2);
        room.addHairs(0, 20);
        Check.same("three alone", room.whyUnusable(0), 3);
        room.putInBox(0, 2);
        Check.same("one and three", room.whyUnusable(0), 1);
        room.advance(5);
        room.tighten(0);
        Check.same("one alone", room.whyUnusable(0), 1);
        room.takeOut(0);
        Check.same("none", room.whyUnusable(0), 0);
        HygrometerRoom bulb = Rooms.of("room 10 0 5;bulb 0;box 0 0");
        Check.same("a bulb for one and two", bulb.whyUnusable(0), 1);
    }

    private static void reasonOne() {
        for (int salt = 0; salt < 4; salt++) {
            HygrometerRoom room = Rooms.of("room 10 0 0;hair 1;bulb 1");
            for (int i = 0; i < 2; i++) {
                Check.same("outside", room.whyUnusable(i), 0);
                room.putInBox(i, salt);
                Check.same("in box " + salt, room.whyUnusable(i), 1);
                room.takeOut(i);
                Check.same("outside again", room.whyUnusable(i), 0);
            }
        }
    }

    private static void reasonTwo() {
        HygrometerRoom room = Rooms.of("room 19 0 1;hair 2;bulb 1;bulb 0;minutes 60;tighten 0");
        Check.same("one hair", room.whyUnusable(0), 0);
        room.tighten(0);
        Check.same("no hairs", room.whyUnusable(0), 2);
        room.addHairs(0, 1);
        Check.same("a hair again", room.whyUnusable(0), 0);
        Check.same("no water", room.whyUnusable(2), 2);
        room.moisten(1);
        room.advance(59);
        Check.same("the last water", room.whyUnusable(1), 0);
        room.advance(1);
        Check.same("the water gone", room.whyUnusable(1), 2);
    }

    private static void reasonThree() {
        HygrometerRoom room = Rooms.of("room 50 0 0;hair 2;bulb 60");
        Rooms.pass(room, 259);
        Check.same("slack 25", room.slackOf(0), 25);
        Check.same("slack 25 is none", room.whyUnusable(0), 0);
        room.moisten(1);
        room.advance(1);
        Check.same("slack 26", room.whyUnusable(0), 3);
        Check.same("a bulb of the same age", room.whyUnusable(1), 0);
        Rooms.pass(room, 300);
        Check.same("slack 50", room.whyUnusable(0), 3);
        room.tighten(0);
        Check.same("slack 0", room.whyUnusable(0), 0);
    }

    private static void weights() {
        HygrometerRoom room = Rooms.of("room 19 0 0;hair 1;hair 20;bulb 1;bulb 60;bulb 0;hair 7");
        int[] due = {1, 20, 5, 5, 0, 7};
        for (int i = 0; i < 6; i++) {
            Check.same("weight of " + i, room.weightOf(i), due[i]);
        }
        room.tighten(1);
        Check.same("a hair less", room.weightOf(1), 19);
        room.tighten(0);
        Check.same("no hairs", room.weightOf(0), 0);
        room.putInBox(5, 0);
        Check.same("hairs in a box", room.weightOf(5), 0);
        room.putInBox(3, 0);
        Check.same("a bulb in a box", room.weightOf(3), 0);
        Rooms.pass(room, 259);
        Check.same("slack 25", room.weightOf(1), 19);
        Rooms.pass(room, 1);
        Check.same("slack 26", room.weightOf(1), 0);
    }

    private static void blends() {
        Check.same("no instrument", Rooms.of("room 50 0 0").blend(), -1);
        Check.same("none usable", Rooms.of("room 50 0 0;bulb 0;hair 1;box 1 0").blend(), -1);
        Check.same("one alone", Rooms.of("room 50 0 0;bulb 0;hair 1").blend(), 50);
        Check.same("all at 0", Rooms.of("room 0 0 0;hair 1;hair 20;bulb 1").blend(), 0);
        Check.same("all at 100", Rooms.of("room 100 0 0;hair 1;hair 20;bulb 1").blend(), 100);
        HygrometerRoom room = Rooms.of("room 0 0 0;hair 3;humidity 100;hair 20;hair 19;hair 18;bulb 1;bulb 2");
        // 67 of 70 weights read 100.
        Check.same("six, truncated", room.blend(), 95);
        room.putInBox(1, 0);
        Check.same("five: 47 of 50", room.blend(), 94);
        for (int i = 2; i < 6; i++) {
            room.putInBox(i, i - 2);
        }
        Check.same("the first alone", room.blend(), 0);
        room.putInBox(0, 0);
        Check.same("none", room.blend(), -1);
        room.takeOut(5);
        Check.same("the last alone", room.blend(), 100);
    }

    private static void newZero() {
        HygrometerRoom hair = Rooms.of("room 33 0 0;hair 1;box 0 0;minutes 49");
        Check.same("zero before", hair.calibrate(0), 0);
        Check.same("slack 4", hair.zeroOf(0), 0);
        hair.advance(1);
        hair.calibrate(0);
        Check.same("slack 5", hair.zeroOf(0), 1);
        hair.calibrate(0);
        Check.same("the old zero does not count", hair.zeroOf(0), 1);
        Rooms.pass(hair, 500);
        hair.calibrate(0);
        Check.same("slack 50", hair.zeroOf(0), 10);
        hair.tighten(0);
        hair.calibrate(0);
        Check.same("slack 0", hair.zeroOf(0), 0);
        HygrometerRoom bulb = Rooms.of("room 0 0 0;bulb 1;bulb 1;bulb 1;bulb 1;box 0 0;box 1 1;box 2 2;box 3 3");
        int[] due = {-7, -7, -5, -3};
        for (int i = 0; i < 4; i++) {
            bulb.calibrate(i);
            Check.same("a bulb in box " + i, bulb.zeroOf(i), due[i]);
            Check.same("its reading", bulb.readingOf(i), FIXED[i]);
        }
    }

    private static void obstacles() {
        HygrometerRoom room = Rooms.of("room 32 0 0;hair 20;hair 20;humidity 33;bulb 0;bulb 1");
        Check.same("outside, not settled", room.calibrationObstacle(0), 1);
        Check.same("outside, no water", room.calibrationObstacle(2), 1);
        Check.same("outside, settled", room.calibrationObstacle(3), 1);
        for (int i = 0; i < 4; i++) {
            room.putInBox(i, 0);
        }
        Check.same("in a box, 1 away", room.calibrationObstacle(0), 2);
        Check.same("in a box, no water", room.calibrationObstacle(2), 2);
        Check.same("in a box, the last water", room.calibrationObstacle(3), 0);
        room.advance(1);
        Check.same("in a box, there", room.calibrationObstacle(0), 0);
        Check.same("in a box, dried", room.calibrationObstacle(3), 2);
    }
}
