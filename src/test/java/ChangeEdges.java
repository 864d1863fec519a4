/** Boundary cases of promises 41 to 50. */
final class ChangeEdges {
    private static final Class<IllegalArgumentException> NO_ARGUMENT = IllegalArgumentException.class;
    private static final Class<IllegalStateException> NO_STATE = IllegalStateException.class;
    private static final int LEAST = Integer.MIN_VALUE;
    private static final int MOST = Integer.MAX_VALUE;
    private static final int[] FIXED = {33, 43, 75, 97};

    private ChangeEdges() {
    }

    static void run() {
        advance();
        setters();
        boxes();
        calibrate();
        tighten();
        moisten();
        addHairs();
    }

    private static void advance() {
        Sentences.in(41);
        Sentences.hold("Lets minutes pass.", ChangeEdges::minutesPass);
        Sentences.hold("`minutes`: 1 to 99", ChangeEdges::fewAndMany);
        Sentences.hold("Returns the number of hairs that were brought.", ChangeEdges::brought);
        Sentences.hold("Throws `IllegalArgumentException` if minutes is out of range", ChangeEdges::wrongMinutes);
        Sentences.hold("Throws `IllegalStateException` if the minute number would exceed 9999", ChangeEdges::tooLate);
    }

    private static void setters() {
        Sentences.in(42);
        Sentences.hold("Sets the humidity of the room.", ChangeEdges::newHumidity);
        Sentences.hold("`humidity`: 0 to 100", ChangeEdges::humidities);
        Sentences.hold("Returns the previous humidity.", ChangeEdges::previousHumidity);
        Sentences.hold("Throws `IllegalArgumentException` if humidity is out of range", ChangeEdges::wrongHumidity);
        Sentences.in(43);
        Sentences.hold("Sets the temperature.", ChangeEdges::newTemperature);
        Sentences.hold("`temperature`: 0 to 40", ChangeEdges::temperatures);
        Sentences.hold("Returns the previous temperature.", ChangeEdges::previousTemperature);
        Sentences.hold("Throws `IllegalArgumentException` if temperature is out of range",
                ChangeEdges::wrongTemperature);
        Sentences.in(44);
        Sentences.hold("Sets the skill of the apprentice.", ChangeEdges::newSkill);
        Sentences.hold("`skill`: 0 to 5", ChangeEdges::skills);
        Sentences.hold("Returns the previous skill.", ChangeEdges::previousSkill);
        Sentences.hold("Throws `IllegalArgumentException` if skill is out of range", ChangeEdges::wrongSkill);
    }

    private static void boxes() {
        Sentences.in(45);
        Sentences.hold("Puts an instrument into a salt box.", ChangeEdges::putIn);
        Sentences.hold("`salt`: 0 to 3", ChangeEdges::salts);
        Sentences.hold("Returns the fixed point.", ChangeEdges::fixedPoints);
        Sentences.hold("Throws `IllegalArgumentException` if salt is out of range", ChangeEdges::wrongSalts);
        Sentences.hold("Throws `IllegalStateException` if the instrument is in a box", ChangeEdges::inAlready);
        Sentences.in(46);
        Sentences.hold("Takes an instrument out of its box.", ChangeEdges::takenOut);
        Sentences.hold("Returns the salt of the box.", ChangeEdges::formerSalts);
        Sentences.hold("Throws `IllegalStateException` if the instrument is outside", ChangeEdges::outAlready);
    }

    private static void calibrate() {
        Sentences.in(47);
        Sentences.hold("Calibrates an instrument.", ChangeEdges::calibrated);
        Sentences.hold("Returns the previous zero.", ChangeEdges::previousZeros);
        Sentences.hold("Throws `IllegalStateException` if there is an obstacle", ChangeEdges::obstacles);
    }

    private static void tighten() {
        Sentences.in(48);
        Sentences.hold("Tightens the spring of a hair hygrometer: its slack becomes 0.", ChangeEdges::noSlack);
        Sentences.hold("If its wetness is less than 20, one of its hairs breaks.", ChangeEdges::brittle);
        Sentences.hold("Returns the slack before.", ChangeEdges::slackBefore);
        Sentences.hold("Throws `IllegalStateException` if the instrument is a wet bulb, or has no hairs",
                ChangeEdges::notTightened);
    }

    private static void moisten() {
        Sentences.in(49);
        Sentences.hold("Moistens a wet bulb: its water becomes 60.", ChangeEdges::fullOfWater);
        Sentences.hold("Returns the water before.", ChangeEdges::waterBefore);
        Sentences.hold("Throws `IllegalStateException` if the instrument is a hair hygrometer",
                ChangeEdges::notMoistened);
    }

    private static void addHairs() {
        Sentences.in(50);
        Sentences.hold("Adds hairs from the stock to a hair hygrometer.", ChangeEdges::fromTheStock);
        Sentences.hold("`hairs`: 1 to 20", ChangeEdges::oneToTwenty);
        Sentences.hold("Returns the number of its hairs afterwards.", ChangeEdges::hairsAfterwards);
        Sentences.hold("Throws `IllegalArgumentException` if hairs is out of range", ChangeEdges::wrongHairs);
        Sentences.hold("Throws `IllegalStateException` if the instrument is a wet bulb, the stock has fewer hairs, or"
                + " the instrument would have more than 20", ChangeEdges::notAdded);
    }

    private static void minutesPass() {
        HygrometerRoom once = Rooms.of("room 0 20 5;hair 7;bulb 60;hair 1;box 2 2;humidity 99");
        HygrometerRoom often = Rooms.of("room 0 20 5;hair 7;bulb 60;hair 1;box 2 2;humidity 99");
        once.advance(99);
        for (int minute = 0; minute < 99; minute++) {
            often.advance(1);
        }
        Check.same("99 at once and one by one", Rooms.state(once), Rooms.state(often));
        Check.same("no instruments", Rooms.state(after("room 0 0 0", 60)),
                "minute 60 humidity 0 temperature 0 skill 0 stock 0 difference 0");
    }

    private static HygrometerRoom after(String text, int minutes) {
        HygrometerRoom room = Rooms.of(text);
        room.advance(minutes);
        return room;
    }

    private static void fewAndMany() {
        for (int minutes : new int[] {1, 2, 98, 99}) {
            Check.same(minutes + " minutes", after("room 0 0 0", minutes).minute(), minutes);
        }
    }

    private static void brought() {
        int[][] due = {
            // minute before, minutes, times
            {0, 59, 0}, {0, 60, 1}, {0, 61, 1}, {59, 1, 1}, {60, 1, 0}, {60, 59, 0}, {60, 60, 1}, {21, 98, 1},
            {21, 99, 2}, {22, 99, 2}, {59, 61, 2}, {60, 99, 1}, {9900, 60, 1}, {9900, 59, 0}, {9900, 99, 1},
        };
        for (int[] row : due) {
            for (int skill = 0; skill <= 5; skill += 5) {
                HygrometerRoom room = Rooms.of("room 0 0 0");
                Rooms.pass(room, row[0]);
                room.setSkill(skill);
                Check.same(row[1] + " minutes from " + row[0], room.advance(row[1]), skill * row[2]);
            }
        }
        HygrometerRoom full = Rooms.of("room 0 0 5");
        Check.same("to 95", Rooms.pass(full, 1161), 95);
        Check.same("to 99", full.advance(99), 4);
        Check.same("beyond 99", full.advance(99), 0);
        Check.same("the minute", full.minute(), 1359);
    }

    private static void wrongMinutes() {
        for (int minutes : new int[] {0, -1, 100, 256, LEAST, MOST}) {
            Check.refused("advance " + minutes, NO_ARGUMENT, Rooms::busy, room -> room.advance(minutes));
        }
    }

    private static HygrometerRoom at(int minute) {
        HygrometerRoom room = Rooms.of("room 0 0 5;bulb 0");
        Rooms.pass(room, minute);
        return room;
    }

    private static void tooLate() {
        int[][] good = {{9998, 1}, {9900, 99}, {9950, 49}};
        for (int[] pair : good) {
            HygrometerRoom room = at(pair[0]);
            room.advance(pair[1]);
            Check.same("up to 9999 from " + pair[0], room.minute(), 9999);
        }
        int[][] bad = {{9999, 1}, {9999, 99}, {9998, 2}, {9901, 99}, {9950, 50}};
        for (int[] pair : bad) {
            Check.refused("beyond 9999 from " + pair[0], NO_STATE, () -> at(pair[0]), room -> room.advance(pair[1]));
        }
    }

    private static void newHumidity() {
        HygrometerRoom room = Rooms.of("room 50 0 0;hair 1;bulb 1;bulb 1;box 2 0");
        room.setHumidity(51);
        Check.same("humidity", room.humidity(), 51);
        Check.same("around a hair", room.surroundingOf(0), 51);
        Check.same("the wetness waits", room.wetnessOf(0), 50);
        Check.same("in a box", room.surroundingOf(2), 33);
    }

    private static void humidities() {
        HygrometerRoom room = new HygrometerRoom();
        for (int humidity : new int[] {0, 1, 99, 100}) {
            room.setHumidity(humidity);
            Check.same("set to " + humidity, room.humidity(), humidity);
        }
    }

    private static void previousHumidity() {
        HygrometerRoom room = new HygrometerRoom();
        int before = 50;
        for (int humidity : new int[] {0, 0, 100, 100, 1}) {
            Check.same("before " + humidity, room.setHumidity(humidity), before);
            before = humidity;
        }
    }

    private static void wrongHumidity() {
        for (int humidity : new int[] {-1, 101, 256, LEAST, MOST}) {
            Check.refused("humidity " + humidity, NO_ARGUMENT, Rooms::busy, room -> room.setHumidity(humidity));
        }
    }

    private static void newTemperature() {
        HygrometerRoom room = Rooms.of("room 50 20 0;bulb 1");
        room.setTemperature(21);
        Check.same("temperature", room.temperature(), 21);
        Check.same("depression", room.depressionOf(0), 15);
        room.setTemperature(22);
        Check.same("depression, warmer", room.depressionOf(0), 16);
    }

    private static void temperatures() {
        HygrometerRoom room = new HygrometerRoom();
        for (int temperature : new int[] {0, 1, 39, 40}) {
            room.setTemperature(temperature);
            Check.same("set to " + temperature, room.temperature(), temperature);
        }
    }

    private static void previousTemperature() {
        HygrometerRoom room = new HygrometerRoom();
        int before = 20;
        for (int temperature : new int[] {0, 0, 40, 40, 1}) {
            Check.same("before " + temperature, room.setTemperature(temperature), before);
            before = temperature;
        }
    }

    private static void wrongTemperature() {
        for (int temperature : new int[] {-1, 41, -10, 256, LEAST, MOST}) {
            Check.refused("temperature " + temperature, NO_ARGUMENT, Rooms::busy,
                    room -> room.setTemperature(temperature));
        }
    }

    private static void newSkill() {
        HygrometerRoom room = Rooms.of("room 50 20 0;minutes 59");
        room.setSkill(4);
        Check.same("skill", room.skill(), 4);
        Check.same("what it brings", room.advance(1), 4);
    }

    private static void skills() {
        HygrometerRoom room = new HygrometerRoom();
        for (int skill : new int[] {0, 1, 4, 5}) {
            room.setSkill(skill);
            Check.same("set to " + skill, room.skill(), skill);
        }
    }

    private static void previousSkill() {
        HygrometerRoom room = new HygrometerRoom();
        int before = 2;
        for (int skill : new int[] {0, 0, 5, 5, 1}) {
            Check.same("before " + skill, room.setSkill(skill), before);
            before = skill;
        }
    }

    private static void wrongSkill() {
        for (int skill : new int[] {-1, 6, 256, LEAST, MOST}) {
            Check.refused("skill " + skill, NO_ARGUMENT, Rooms::busy, room -> room.setSkill(skill));
        }
    }

    private static void putIn() {
        HygrometerRoom room = Rooms.of("room 50 20 0;hair 1;hair 1;tighten 0;bulb 0");
        for (int i = 0; i < 3; i++) {
            room.putInBox(i, 3);
            Check.same("box of " + i, room.boxOf(i), 3);
            Check.same("around " + i, room.surroundingOf(i), 97);
        }
        Check.same("the wetness waits", room.wetnessOf(1), 50);
        Check.same("it is recorded", room.undo(), 2);
        Check.same("outside again", room.boxOf(2), -1);
    }

    private static void salts() {
        for (int salt = 0; salt < 4; salt++) {
            HygrometerRoom room = Rooms.of("room 50 20 0;hair 1");
            room.putInBox(0, salt);
            Check.same("box", room.boxOf(0), salt);
        }
    }

    private static void fixedPoints() {
        for (int salt = 0; salt < 4; salt++) {
            Check.same("of salt " + salt, Rooms.of("room 50 20 0;hair 1").putInBox(0, salt), FIXED[salt]);
        }
    }

    private static void wrongSalts() {
        for (int salt : new int[] {-1, 4, 256, LEAST, MOST}) {
            Check.refused("outside, to " + salt, NO_ARGUMENT, Rooms::busy, room -> room.putInBox(0, salt));
            Check.refused("in a box, to " + salt, NO_ARGUMENT, Rooms::busy, room -> room.putInBox(1, salt));
        }
    }

    private static void inAlready() {
        for (int salt = 0; salt < 4; salt++) {
            int again = salt;
            Check.refused("from 2 to " + salt, NO_STATE, Rooms::busy, room -> room.putInBox(1, again));
            HygrometerRoom first = Rooms.of("room 0 0 0;hair 1;box 0 0");
            Check.refuses("from 0 to " + salt, NO_STATE, first, () -> first.putInBox(0, again));
        }
    }

    private static void takenOut() {
        HygrometerRoom room = Rooms.of("room 50 20 0;hair 1;bulb 0;box 0 0;box 1 0");
        room.takeOut(0);
        Check.same("outside", room.boxOf(0), -1);
        Check.same("around it", room.surroundingOf(0), 50);
        Check.same("the other", room.boxOf(1), 0);
        room.putInBox(0, 3);
        Check.same("in again", room.boxOf(0), 3);
        Check.same("both are recorded", room.undo(), 1);
    }

    private static void formerSalts() {
        for (int salt = 0; salt < 4; salt++) {
            Check.same("salt", Rooms.of("room 50 20 0;bulb 1;box 0 " + salt).takeOut(0), salt);
        }
    }

    private static void outAlready() {
        Check.refused("never in a box", NO_STATE, Rooms::busy, room -> room.takeOut(0));
        HygrometerRoom room = Rooms.of("room 50 20 0;hair 1;box 0 0");
        room.takeOut(0);
        Check.refuses("taken out", NO_STATE, room, () -> room.takeOut(0));
    }

    private static void calibrated() {
        HygrometerRoom room = Rooms.of("room 97 20 0;hair 1;bulb 60;box 0 3;box 1 2;minutes 50");
        room.calibrate(0);
        room.calibrate(1);
        Check.same("a hair", room.zeroOf(0), 1);
        Check.same("a bulb", room.zeroOf(1), -2);
        Check.same("the hair reads", room.readingOf(0), 97);
        Check.same("the bulb reads", room.readingOf(1), 75);
        Check.same("both are recorded", room.undo(), 1);
        Check.same("undone", room.zeroOf(1), 0);
        Check.same("the other is not", room.zeroOf(0), 1);
    }

    private static void previousZeros() {
        HygrometerRoom room = Rooms.of("room 33 0 0;hair 1;bulb 60;box 0 0;box 1 0;minutes 50");
        Check.same("none", room.calibrate(0), 0);
        Check.same("1", room.calibrate(0), 1);
        Check.same("none of a bulb", room.calibrate(1), 0);
        Check.same("-7", room.calibrate(1), -7);
    }

    private static void obstacles() {
        Check.refused("outside", NO_STATE, Rooms::busy, room -> room.calibrate(0));
        String text = "room 32 0 0;hair 20;bulb 0;box 0 0;box 1 0";
        Check.refused("1 away", NO_STATE, () -> Rooms.of(text), room -> room.calibrate(0));
        Check.refused("no water", NO_STATE, () -> Rooms.of(text), room -> room.calibrate(1));
        HygrometerRoom room = Rooms.of(text);
        room.advance(1);
        Check.same("there", room.calibrate(0), 0);
        room.moisten(1);
        Check.same("water", room.calibrate(1), 0);
        room.takeOut(0);
        Check.refuses("outside again", NO_STATE, room, () -> room.calibrate(0));
    }

    private static void noSlack() {
        for (int minutes : new int[] {0, 9, 10, 490, 499, 500, 510}) {
            HygrometerRoom room = Rooms.of("room 50 0 0;hair 1;hair 1");
            Rooms.pass(room, minutes);
            room.tighten(1);
            Check.same("slack after " + minutes, room.slackOf(1), 0);
            Check.same("the other after " + minutes, room.slackOf(0), Math.min(50, minutes / 10));
        }
        HygrometerRoom boxed = Rooms.of("room 50 0 0;hair 1;box 0 0;minutes 10");
        boxed.tighten(0);
        Check.same("in a box", boxed.slackOf(0), 0);
    }

    private static void brittle() {
        int[][] due = {{0, 1}, {1, 1}, {18, 1}, {19, 1}, {20, 0}, {21, 0}, {100, 0}};
        for (int[] row : due) {
            HygrometerRoom room = Rooms.of("room " + row[0] + " 0 0;hair 20;hair 20");
            room.tighten(0);
            Check.same("hairs at " + row[0], room.hairsOf(0), 20 - row[1]);
            Check.same("broken at " + row[0], room.brokenOf(0), row[1]);
            Check.same("the other at " + row[0], room.hairsOf(1) - room.brokenOf(1), 20);
        }
        HygrometerRoom dry = Rooms.of("room 19 0 0;hair 1;humidity 100");
        dry.tighten(0);
        Check.same("the wetness counts, not the humidity", dry.hairsOf(0), 0);
        HygrometerRoom wet = Rooms.of("room 20 0 0;hair 1;humidity 0");
        wet.tighten(0);
        Check.same("the wetness counts, though the room is dry", wet.hairsOf(0), 1);
        HygrometerRoom slack = Rooms.of("room 20 0 0;hair 1;minutes 50");
        slack.tighten(0);
        Check.same("the wetness counts, not the raw value", slack.hairsOf(0), 1);
    }

    private static void slackBefore() {
        int[][] due = {{0, 0}, {9, 0}, {10, 1}, {499, 49}, {500, 50}, {520, 50}};
        for (int[] row : due) {
            HygrometerRoom room = Rooms.of("room 0 0 0;hair 2");
            Rooms.pass(room, row[0]);
            Check.same("after " + row[0], room.tighten(0), row[1]);
            Check.same("once more", room.tighten(0), 0);
        }
    }

    private static void notTightened() {
        Check.refused("a wet bulb", NO_STATE, Rooms::busy, room -> room.tighten(1));
        String bare = "room 19 0 5;hair 1;minutes 60;tighten 0;bulb 0";
        Check.refused("no hairs", NO_STATE, () -> Rooms.of(bare), room -> room.tighten(0));
        Check.refused("a dry bulb", NO_STATE, () -> Rooms.of(bare), room -> room.tighten(1));
        HygrometerRoom room = Rooms.of(bare);
        room.addHairs(0, 1);
        Check.same("one hair", room.tighten(0), 0);
        Check.same("it broke", room.brokenOf(0), 2);
    }

    private static void fullOfWater() {
        for (int water : new int[] {0, 1, 59, 60}) {
            HygrometerRoom room = Rooms.of("room 50 0 0;bulb 3;bulb " + water);
            room.moisten(1);
            Check.same("from " + water, room.waterOf(1), 60);
            Check.same("the other", room.waterOf(0), 3);
        }
    }

    private static void waterBefore() {
        for (int water : new int[] {0, 1, 59, 60}) {
            HygrometerRoom room = Rooms.of("room 50 0 0;bulb " + water);
            Check.same("before", room.moisten(0), water);
            Check.same("once more", room.moisten(0), 60);
        }
    }

    private static void notMoistened() {
        Check.refused("a hair hygrometer", NO_STATE, Rooms::busy, room -> room.moisten(0));
        String bare = "room 19 0 0;hair 1;tighten 0";
        Check.refused("without hairs", NO_STATE, () -> Rooms.of(bare), room -> room.moisten(0));
    }

    /** A hair hygrometer with these hairs, and a stock. */
    private static HygrometerRoom stocked(int hairs, int stock) {
        HygrometerRoom room = Rooms.of("room 50 0 1;hair " + hairs + ";hair 1;bulb 9");
        Rooms.pass(room, 60 * stock);
        return room;
    }

    private static void fromTheStock() {
        HygrometerRoom room = stocked(9, 5);
        room.addHairs(0, 2);
        Check.same("hairs", room.hairsOf(0), 11);
        Check.same("stock", room.hairStock(), 3);
        Check.same("the other", room.hairsOf(1), 1);
        Check.same("the slack stays", room.slackOf(0), 30);
        Check.same("the wetness stays", room.wetnessOf(0), 50);
        room.undo();
        Check.same("hairs undone", room.hairsOf(0), 9);
        Check.same("stock undone", room.hairStock(), 5);
    }

    private static void oneToTwenty() {
        HygrometerRoom room = Rooms.of("room 0 0 1;hair 1;tighten 0");
        Rooms.pass(room, 60 * 21);
        Check.same("20", room.addHairs(0, 20), 20);
        Check.same("the last of the stock", room.hairStock(), 1);
        room.tighten(0);
        Check.same("1", room.addHairs(0, 1), 20);
        Check.same("stock", room.hairStock(), 0);
    }

    private static void hairsAfterwards() {
        HygrometerRoom room = stocked(1, 19);
        Check.same("one more", room.addHairs(0, 1), 2);
        Check.same("ten more", room.addHairs(0, 10), 12);
        Check.same("up to 20", room.addHairs(0, 8), 20);
    }

    private static void wrongHairs() {
        for (int hairs : new int[] {0, -1, 21, 256, LEAST, MOST}) {
            Check.refused("a hair, " + hairs, NO_ARGUMENT, Rooms::busy, room -> room.addHairs(0, hairs));
            Check.refused("a bulb, " + hairs, NO_ARGUMENT, Rooms::busy, room -> room.addHairs(1, hairs));
            Check.refused("no room, " + hairs, NO_ARGUMENT, () -> stocked(20, 5), room -> room.addHairs(0, hairs));
        }
    }

    private static void notAdded() {
        Check.refused("a wet bulb", NO_STATE, Rooms::busy, room -> room.addHairs(1, 1));
        Check.refused("1 of a stock of 0", NO_STATE, () -> stocked(1, 0), room -> room.addHairs(0, 1));
        Check.refused("2 of a stock of 1", NO_STATE, () -> stocked(1, 1), room -> room.addHairs(0, 2));
        Check.same("1 of a stock of 1", stocked(1, 1).addHairs(0, 1), 2);
        Check.refused("20 of a stock of 19", NO_STATE, () -> bare(19), room -> room.addHairs(0, 20));
        Check.same("20 of a stock of 20", bare(20).addHairs(0, 20), 20);
        Check.refused("1 to 20", NO_STATE, () -> stocked(20, 5), room -> room.addHairs(0, 1));
        Check.same("1 to 19", stocked(19, 5).addHairs(0, 1), 20);
        Check.refused("20 to 1", NO_STATE, () -> stocked(1, 25), room -> room.addHairs(0, 20));
        Check.same("19 to 1", stocked(1, 25).addHairs(0, 19), 20);
        Check.refused("5 to 16", NO_STATE, () -> stocked(16, 5), room -> room.addHairs(0, 5));
        Check.same("4 to 16", stocked(16, 5).addHairs(0, 4), 20);
    }

    private static HygrometerRoom bare(int stock) {
        HygrometerRoom room = Rooms.of("room 0 0 1;hair 1;tighten 0");
        Rooms.pass(room, 60 * stock);
        return room;
    }
}
