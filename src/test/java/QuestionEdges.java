/** Boundary cases of promises 6 to 29: the questions about the room and about one instrument. */
final class QuestionEdges {
    private static final Class<IllegalArgumentException> NO_ARGUMENT = IllegalArgumentException.class;
    private static final int[] FIXED = {33, 43, 75, 97};

    private QuestionEdges() {
    }

    static void run() {
        room();
        stockAndSalts();
        hairs();
        bulbs();
        zerosAndBoxes();
        readings();
        uses();
    }

    private static void room() {
        Sentences.in(6);
        Sentences.hold("Returns the minute number.", QuestionEdges::minuteNow);
        Sentences.hold("Returns 0 to 9999.", QuestionEdges::minuteEnds);
        Sentences.in(7);
        Sentences.hold("Returns the humidity of the room.", QuestionEdges::humidityNow);
        Sentences.hold("Returns 0 to 100.", QuestionEdges::humidityEnds);
        Sentences.in(8);
        Sentences.hold("Returns the temperature.", QuestionEdges::temperatureNow);
        Sentences.hold("Returns 0 to 40.", QuestionEdges::temperatureEnds);
        Sentences.in(9);
        Sentences.hold("Returns the skill of the apprentice.", QuestionEdges::skillNow);
        Sentences.hold("Returns 0 to 5.", QuestionEdges::skillEnds);
    }

    private static void stockAndSalts() {
        Sentences.in(10);
        Sentences.hold("Returns the stock of hairs.", QuestionEdges::stockNow);
        Sentences.hold("Returns 0 to 99.", QuestionEdges::stockEnds);
        Sentences.in(11);
        Sentences.hold("Returns the fixed point of a salt.", QuestionEdges::eachSalt);
        Sentences.hold("`salt`: 0 to 3", QuestionEdges::saltEnds);
        Sentences.hold("Returns 33, 43, 75 or 97.", QuestionEdges::fixedPoints);
        Sentences.hold("Throws `IllegalArgumentException` if salt is out of range", QuestionEdges::wrongSalts);
        Sentences.in(12);
        Sentences.hold("Returns the number of instruments.", QuestionEdges::instrumentsNow);
        Sentences.hold("Returns 0 to 6.", QuestionEdges::instrumentEnds);
    }

    private static void hairs() {
        Sentences.in(13);
        Sentences.hold("Tells whether an instrument is a hair hygrometer.", QuestionEdges::kinds);
        Sentences.hold("Returns true if it is, false if it is a wet bulb.", QuestionEdges::emptyKinds);
        Sentences.in(14);
        Sentences.hold("Returns the number of hairs of an instrument.", QuestionEdges::hairsNow);
        Sentences.hold("Returns 0 to 20; NONE for a wet bulb.", QuestionEdges::hairEnds);
        Sentences.in(15);
        Sentences.hold("Returns the number of broken hairs of an instrument.", QuestionEdges::brokenNow);
        Sentences.hold("Returns the number of all hairs that have broken; NONE for a wet bulb.",
                QuestionEdges::allBroken);
        Sentences.in(16);
        Sentences.hold("Returns the wetness of an instrument.", QuestionEdges::wetnessNow);
        Sentences.hold("Returns 0 to 100; NONE for a wet bulb.", QuestionEdges::wetnessEnds);
        Sentences.in(17);
        Sentences.hold("Returns the slack of an instrument.", QuestionEdges::slackNow);
        Sentences.hold("Returns 0 to 50; NONE for a wet bulb.", QuestionEdges::slackEnds);
    }

    private static void bulbs() {
        Sentences.in(18);
        Sentences.hold("Returns the water of an instrument.", QuestionEdges::waterNow);
        Sentences.hold("Returns 0 to 60; NONE for a hair hygrometer.", QuestionEdges::waterEnds);
        Sentences.in(19);
        Sentences.hold("Returns the depression of an instrument.", QuestionEdges::depressionNow);
        Sentences.hold("Returns the depression; NONE for a hair hygrometer.", QuestionEdges::depressionEnds);
    }

    private static void zerosAndBoxes() {
        Sentences.in(20);
        Sentences.hold("Returns the zero of an instrument.", QuestionEdges::zeroNow);
        Sentences.hold("Returns the zero, possibly negative.", QuestionEdges::zeroEnds);
        Sentences.in(21);
        Sentences.hold("Returns the salt in whose box an instrument is.", QuestionEdges::boxNow);
        Sentences.hold("Returns 0 to 3; NONE if it is outside.", QuestionEdges::boxEnds);
        Sentences.in(22);
        Sentences.hold("Returns the surrounding humidity of an instrument.", QuestionEdges::surroundingNow);
        Sentences.hold("Returns 0 to 100.", QuestionEdges::surroundingEnds);
    }

    private static void readings() {
        Sentences.in(23);
        Sentences.hold("Returns the raw value of an instrument.", QuestionEdges::rawNow);
        Sentences.hold("Returns the raw value, possibly negative.", QuestionEdges::rawEnds);
        Sentences.in(24);
        Sentences.hold("Returns the reading of an instrument.", QuestionEdges::readingNow);
        Sentences.hold("Returns 0 to 100.", QuestionEdges::readingEnds);
        Sentences.in(25);
        Sentences.hold("Returns the error of an instrument.", QuestionEdges::errorNow);
        Sentences.hold("Returns its reading minus its surrounding humidity.", QuestionEdges::errorEnds);
    }

    private static void uses() {
        Sentences.in(26);
        Sentences.hold("Tells whether an instrument is settled.", QuestionEdges::settledNow);
        Sentences.hold("Returns true if it is settled.", QuestionEdges::settledEnds);
        Sentences.in(27);
        Sentences.hold("Tells why an instrument is unusable.", QuestionEdges::reasonNow);
        Sentences.hold("Returns the first reason that applies, 1 to 3; 0 if it is usable.",
                QuestionEdges::reasonEnds);
        Sentences.in(28);
        Sentences.hold("Returns the weight of an instrument in the blend.", QuestionEdges::weightNow);
        Sentences.hold("Returns the weight.", QuestionEdges::weightEnds);
        Sentences.in(29);
        Sentences.hold("Tells why an instrument cannot be calibrated.", QuestionEdges::obstacleNow);
        Sentences.hold("Returns the first reason that applies, 1 or 2; 0 if there is no obstacle.",
                QuestionEdges::obstacleEnds);
    }

    private static void minuteNow() {
        HygrometerRoom room = new HygrometerRoom();
        Check.same("of a new room", room.minute(), 5);
        room.advance(1);
        Check.same("a minute later", room.minute(), 6);
        room.undo();
        Check.same("undone", room.minute(), 5);
        Rooms.load(room, "room 0 0 0;minutes 99");
        Check.same("of a text", room.minute(), 99);
    }

    private static void minuteEnds() {
        HygrometerRoom room = Rooms.of("room 0 0 0");
        Check.same("least", room.minute(), 0);
        Rooms.pass(room, 9999);
        Check.same("greatest", room.minute(), 9999);
        Check.refuses("none beyond", IllegalStateException.class, room, () -> room.advance(1));
    }

    private static void humidityNow() {
        HygrometerRoom room = new HygrometerRoom();
        Check.same("of a new room", room.humidity(), 50);
        room.setHumidity(51);
        Check.same("set", room.humidity(), 51);
        room.putInBox(0, 3);
        Check.same("a box does not count", room.humidity(), 51);
    }

    private static void humidityEnds() {
        HygrometerRoom room = Rooms.of("room 0 40 5");
        Check.same("least", room.humidity(), 0);
        room.setHumidity(100);
        Check.same("greatest", room.humidity(), 100);
        room.setHumidity(0);
        Check.same("least again", room.humidity(), 0);
        Check.same("greatest of a text", Rooms.of("room 100 0 0").humidity(), 100);
    }

    private static void temperatureNow() {
        HygrometerRoom room = new HygrometerRoom();
        Check.same("of a new room", room.temperature(), 20);
        room.setTemperature(21);
        Check.same("set", room.temperature(), 21);
    }

    private static void temperatureEnds() {
        HygrometerRoom room = Rooms.of("room 100 0 5");
        Check.same("least", room.temperature(), 0);
        room.setTemperature(40);
        Check.same("greatest", room.temperature(), 40);
        room.setTemperature(0);
        Check.same("least again", room.temperature(), 0);
        Check.same("greatest of a text", Rooms.of("room 0 40 0").temperature(), 40);
    }

    private static void skillNow() {
        HygrometerRoom room = new HygrometerRoom();
        Check.same("of a new room", room.skill(), 2);
        room.setSkill(3);
        Check.same("set", room.skill(), 3);
    }

    private static void skillEnds() {
        HygrometerRoom room = Rooms.of("room 100 40 0");
        Check.same("least", room.skill(), 0);
        room.setSkill(5);
        Check.same("greatest", room.skill(), 5);
        room.setSkill(0);
        Check.same("least again", room.skill(), 0);
        Check.same("greatest of a text", Rooms.of("room 0 0 5").skill(), 5);
    }

    private static void stockNow() {
        HygrometerRoom room = Rooms.of("room 0 0 2;hair 18;minutes 60");
        Check.same("brought", room.hairStock(), 2);
        room.addHairs(0, 1);
        Check.same("one taken", room.hairStock(), 1);
        room.addHairs(0, 1);
        Check.same("all taken", room.hairStock(), 0);
        room.tighten(0);
        Check.same("a broken hair does not come back", room.hairStock(), 0);
    }

    private static void stockEnds() {
        HygrometerRoom room = Rooms.of("room 0 0 5;minutes 59");
        Check.same("least", room.hairStock(), 0);
        Rooms.pass(room, 1081);
        Check.same("95", room.hairStock(), 95);
        Rooms.pass(room, 60);
        Check.same("greatest", room.hairStock(), 99);
        Rooms.pass(room, 60);
        Check.same("no more", room.hairStock(), 99);
    }

    private static void eachSalt() {
        HygrometerRoom room = Rooms.of("room 0 0 0;bulb 1");
        for (int salt = 0; salt < 4; salt++) {
            Check.same("what a box of it answers", room.putInBox(0, salt), room.fixedPoint(salt));
            Check.same("the humidity in its box", room.surroundingOf(0), room.fixedPoint(salt));
            room.takeOut(0);
        }
    }

    private static void saltEnds() {
        HygrometerRoom none = Rooms.of("room 0 0 0");
        Check.same("first", none.fixedPoint(0), 33);
        Check.same("last", none.fixedPoint(3), 97);
    }

    private static void fixedPoints() {
        HygrometerRoom room = new HygrometerRoom();
        for (int salt = 0; salt < 4; salt++) {
            Check.same("of " + salt, room.fixedPoint(salt), FIXED[salt]);
        }
    }

    private static void wrongSalts() {
        for (int salt : new int[] {-1, 4, 33, Integer.MIN_VALUE, Integer.MAX_VALUE}) {
            Check.refused("salt " + salt, NO_ARGUMENT, Rooms::busy, room -> room.fixedPoint(salt));
        }
    }

    private static void instrumentsNow() {
        HygrometerRoom room = new HygrometerRoom();
        Check.same("of a new room", room.instrumentCount(), 4);
        room.putInBox(0, 0);
        Check.same("a boxed one counts", room.instrumentCount(), 4);
        Rooms.load(room, "room 0 0 0;bulb 0");
        Check.same("of a text", room.instrumentCount(), 1);
    }

    private static void instrumentEnds() {
        Check.same("least", Rooms.of("room 0 0 0").instrumentCount(), 0);
        Check.same("greatest", six().instrumentCount(), 6);
    }

    /** Three of each kind; the first of a kind is empty. */
    private static HygrometerRoom six() {
        return Rooms.of("room 0 0 0;hair 1;tighten 0;bulb 0;hair 1;bulb 1;hair 20;bulb 60");
    }

    private static void kinds() {
        HygrometerRoom room = six();
        for (int i = 0; i < 6; i++) {
            Check.same("instrument " + i, room.isHair(i), i % 2 == 0);
        }
    }

    private static void emptyKinds() {
        HygrometerRoom room = six();
        Check.same("without hairs", room.isHair(0), true);
        Check.same("without water", room.isHair(1), false);
        room.putInBox(0, 0);
        room.putInBox(1, 0);
        Check.same("in a box, without hairs", room.isHair(0), true);
        Check.same("in a box, without water", room.isHair(1), false);
    }

    private static void hairsNow() {
        HygrometerRoom room = Rooms.of("room 19 0 5;hair 2;hair 3;minutes 60");
        room.addHairs(0, 5);
        Check.same("added", room.hairsOf(0), 7);
        room.tighten(0);
        Check.same("one broken", room.hairsOf(0), 6);
        Check.same("the other", room.hairsOf(1), 3);
    }

    private static void hairEnds() {
        HygrometerRoom room = six();
        int[] due = {0, -1, 1, -1, 20, -1};
        for (int i = 0; i < 6; i++) {
            Check.same("instrument " + i, room.hairsOf(i), due[i]);
        }
    }

    private static void brokenNow() {
        HygrometerRoom room = Rooms.of("room 19 0 0;hair 2;hair 3");
        Check.same("none", room.brokenOf(0), 0);
        room.tighten(0);
        Check.same("one", room.brokenOf(0), 1);
        Check.same("the other", room.brokenOf(1), 0);
    }

    private static void allBroken() {
        HygrometerRoom room = Rooms.of("room 0 0 5;hair 1;bulb 0");
        for (int broken = 1; broken <= 25; broken++) {
            room.tighten(0);
            Check.same("one more, " + broken, room.brokenOf(0), broken);
            Rooms.pass(room, 60);
            room.addHairs(0, 1);
            Check.same("a new hair, " + broken, room.brokenOf(0), broken);
        }
        Check.same("a wet bulb", room.brokenOf(1), -1);
    }

    private static void wetnessNow() {
        HygrometerRoom room = Rooms.of("room 50 0 0;hair 20;humidity 53");
        Check.same("not yet", room.wetnessOf(0), 50);
        room.advance(1);
        Check.same("on its way", room.wetnessOf(0), 52);
        room.advance(1);
        Check.same("there", room.wetnessOf(0), 53);
    }

    private static void wetnessEnds() {
        HygrometerRoom room = Rooms.of("room 0 0 0;hair 1;bulb 60;humidity 100;hair 1");
        Check.same("least", room.wetnessOf(0), 0);
        Check.same("a wet bulb", room.wetnessOf(1), -1);
        Check.same("greatest", room.wetnessOf(2), 100);
        room.advance(5);
        Check.same("up to the greatest", room.wetnessOf(0), 100);
        room.setHumidity(0);
        room.advance(5);
        Check.same("down to the least", room.wetnessOf(2), 0);
    }

    private static void slackNow() {
        HygrometerRoom room = Rooms.of("room 50 0 0;hair 20;hair 20;minutes 20");
        Check.same("after 20 minutes", room.slackOf(0), 2);
        room.tighten(0);
        Check.same("tightened", room.slackOf(0), 0);
        Check.same("the other", room.slackOf(1), 2);
    }

    private static void slackEnds() {
        HygrometerRoom room = Rooms.of("room 50 0 0;hair 20;bulb 60;minutes 9");
        Check.same("least", room.slackOf(0), 0);
        Rooms.pass(room, 491);
        Check.same("greatest", room.slackOf(0), 50);
        Rooms.pass(room, 9499);
        Check.same("never more", room.slackOf(0), 50);
        Check.same("a wet bulb", room.slackOf(1), -1);
    }

    private static void waterNow() {
        HygrometerRoom room = Rooms.of("room 50 0 0;bulb 5;bulb 7;minutes 2");
        Check.same("after 2 minutes", room.waterOf(0), 3);
        room.moisten(0);
        Check.same("moistened", room.waterOf(0), 60);
        Check.same("the other", room.waterOf(1), 5);
    }

    private static void waterEnds() {
        HygrometerRoom room = six();
        int[] due = {-1, 0, -1, 1, -1, 60};
        for (int i = 0; i < 6; i++) {
            Check.same("instrument " + i, room.waterOf(i), due[i]);
        }
        room.advance(1);
        Check.same("never less", room.waterOf(1), 0);
        Check.same("down to the least", room.waterOf(3), 0);
    }

    private static void depressionNow() {
        HygrometerRoom room = Rooms.of("room 50 20 0;bulb 1;bulb 1;box 1 0");
        Check.same("outside", room.depressionOf(0), 15);
        Check.same("in a box", room.depressionOf(1), 20);
        room.setTemperature(30);
        Check.same("outside, warmer", room.depressionOf(0), 20);
        Check.same("in a box, warmer", room.depressionOf(1), 26);
        room.setHumidity(100);
        Check.same("outside, wet", room.depressionOf(0), 0);
    }

    private static void depressionEnds() {
        HygrometerRoom room = Rooms.of("room 0 40 0;bulb 1;bulb 0;hair 1;hair 1;tighten 3");
        int[] due = {50, 0, -1, -1};
        for (int i = 0; i < 4; i++) {
            Check.same("instrument " + i, room.depressionOf(i), due[i]);
        }
        room.setHumidity(100);
        Check.same("least", room.depressionOf(0), 0);
    }

    private static void zeroNow() {
        HygrometerRoom room = Rooms.of("room 97 0 0;hair 1;bulb 9;box 0 3;box 1 3");
        room.calibrate(1);
        Check.same("calibrated", room.zeroOf(1), -3);
        room.takeOut(1);
        room.advance(60);
        Check.same("it lasts", room.zeroOf(1), -3);
        Check.same("the other", room.zeroOf(0), 0);
    }

    private static void zeroEnds() {
        HygrometerRoom bulb = Rooms.of("room 0 0 0;bulb 1;box 0 0");
        bulb.calibrate(0);
        Check.same("least", bulb.zeroOf(0), -7);
        HygrometerRoom hair = Rooms.of("room 33 0 0;hair 1;box 0 0");
        hair.calibrate(0);
        Check.same("none", hair.zeroOf(0), 0);
        Rooms.pass(hair, 500);
        hair.calibrate(0);
        Check.same("greatest", hair.zeroOf(0), 10);
    }

    private static void boxNow() {
        HygrometerRoom room = Rooms.of("room 0 0 0;hair 1;bulb 1;box 1 2");
        Check.same("in a box", room.boxOf(1), 2);
        room.takeOut(1);
        Check.same("outside", room.boxOf(1), -1);
        room.putInBox(0, 1);
        Check.same("the other", room.boxOf(0), 1);
    }

    private static void boxEnds() {
        HygrometerRoom room = Rooms.of("room 0 0 0;hair 1;bulb 1;hair 1;box 0 0;box 1 3");
        int[] due = {0, 3, -1};
        for (int i = 0; i < 3; i++) {
            Check.same("instrument " + i, room.boxOf(i), due[i]);
        }
    }

    private static void surroundingNow() {
        HygrometerRoom room = Rooms.of("room 9 0 0;hair 1;bulb 1;box 1 2");
        Check.same("outside", room.surroundingOf(0), 9);
        Check.same("in a box", room.surroundingOf(1), 75);
    }

    private static void surroundingEnds() {
        HygrometerRoom room = Rooms.of("room 0 0 0;hair 1;bulb 0");
        Check.same("least", room.surroundingOf(0) + room.surroundingOf(1), 0);
        room.setHumidity(100);
        Check.same("greatest", room.surroundingOf(0) + room.surroundingOf(1), 200);
    }

    private static void rawNow() {
        HygrometerRoom room = Rooms.of("room 97 0 0;hair 1;bulb 60;box 0 3;box 1 3;minutes 50");
        Check.same("slack 5", room.rawValue(0), 96);
        Check.same("a bulb", room.rawValue(1), 100);
        room.calibrate(0);
        room.calibrate(1);
        Check.same("the zero does not count", room.rawValue(0), 96);
        Check.same("the bulb's does not either", room.rawValue(1), 100);
    }

    private static void rawEnds() {
        HygrometerRoom room = Rooms.of("room 0 0 0;hair 1;bulb 60;minutes 50");
        Check.same("just below 0", room.rawValue(0), -1);
        Check.same("a bulb at 0", room.rawValue(1), 0);
        Rooms.pass(room, 450);
        Check.same("least", room.rawValue(0), -10);
        Check.same("greatest of a bulb", room.rawValue(1), 100);
        room.setHumidity(100);
        room.advance(9);
        room.tighten(0);
        Check.same("greatest", room.rawValue(0), 100);
    }

    private static void readingNow() {
        HygrometerRoom room = Rooms.of("room 97 0 0;hair 1;bulb 60;box 0 3;box 1 3;minutes 50");
        Check.same("slack 5", room.readingOf(0), 96);
        Check.same("a bulb", room.readingOf(1), 100);
        room.calibrate(0);
        room.calibrate(1);
        Check.same("the zero counts", room.readingOf(0), 97);
        Check.same("the bulb's counts too", room.readingOf(1), 97);
    }

    private static void readingEnds() {
        HygrometerRoom low = Rooms.of("room 0 0 0;hair 1");
        Check.same("0", low.readingOf(0), 0);
        Rooms.pass(low, 500);
        Check.same("0 for -10", low.readingOf(0), 0);
        HygrometerRoom high = Rooms.of("room 97 0 0;hair 1;box 0 3;minutes 50");
        high.calibrate(0);
        high.takeOut(0);
        high.setHumidity(100);
        high.advance(1);
        Check.same("100", high.readingOf(0), 100);
        high.tighten(0);
        Check.same("100 for 101", high.readingOf(0), 100);
        Check.same("its raw value", high.rawValue(0), 100);
    }

    private static void errorNow() {
        HygrometerRoom room = Rooms.of("room 33 20 0;hair 1;bulb 60;minutes 50");
        Check.same("a slack hair", room.errorOf(0), -1);
        Check.same("a bulb", room.errorOf(1), 1);
        room.putInBox(0, 1);
        Check.same("a hair in a box", room.errorOf(0), -11);
        room.advance(1);
        room.calibrate(0);
        Check.same("calibrated", room.errorOf(0), 0);
    }

    private static void errorEnds() {
        HygrometerRoom room = Rooms.of("room 0 0 0;hair 1;bulb 0");
        Check.same("none", room.errorOf(0), 0);
        Check.same("greatest", room.errorOf(1), 100);
        room.setHumidity(100);
        Check.same("least", room.errorOf(0), -100);
        Check.same("none at 100", room.errorOf(1), 0);
        room.setHumidity(0);
        Rooms.pass(room, 500);
        Check.same("of the reading, not of the raw value", room.errorOf(0), 0);
    }

    private static void settledNow() {
        HygrometerRoom room = Rooms.of("room 74 0 0;hair 20;bulb 1;box 0 2");
        Check.same("1 below", room.isSettled(0), false);
        room.advance(1);
        Check.same("there", room.isSettled(0), true);
        room.takeOut(0);
        Check.same("1 above", room.isSettled(0), false);
    }

    private static void settledEnds() {
        HygrometerRoom room = six();
        boolean[] due = {true, false, true, true, true, true};
        for (int i = 0; i < 6; i++) {
            Check.same("instrument " + i, room.isSettled(i), due[i]);
        }
        room.setHumidity(1);
        Check.same("without hairs, 1 away", room.isSettled(0), false);
        room.advance(99);
        Check.same("without hairs, for ever", room.isSettled(0), false);
    }

    private static void reasonNow() {
        HygrometerRoom room = six();
        int[] due = {2, 2, 0, 0, 0, 0};
        for (int i = 0; i < 6; i++) {
            Check.same("instrument " + i, room.whyUnusable(i), due[i]);
        }
    }

    private static void reasonEnds() {
        HygrometerRoom room = Rooms.of("room 50 0 0;hair 1;bulb 60");
        Rooms.pass(room, 259);
        Check.same("slack 25", room.whyUnusable(0), 0);
        Check.same("no water", room.whyUnusable(1), 2);
        room.advance(1);
        Check.same("slack 26", room.whyUnusable(0), 3);
        room.putInBox(0, 0);
        room.putInBox(1, 0);
        Check.same("slack 26 in a box", room.whyUnusable(0), 1);
        Check.same("no water in a box", room.whyUnusable(1), 1);
    }

    private static void weightNow() {
        HygrometerRoom room = six();
        int[] due = {0, 0, 1, 5, 20, 5};
        for (int i = 0; i < 6; i++) {
            Check.same("instrument " + i, room.weightOf(i), due[i]);
        }
    }

    private static void weightEnds() {
        HygrometerRoom room = Rooms.of("room 50 0 5;hair 15;bulb 60;minutes 60");
        Check.same("15 hairs", room.weightOf(0), 15);
        room.addHairs(0, 5);
        Check.same("20 hairs", room.weightOf(0), 20);
        Check.same("no water", room.weightOf(1), 0);
        room.moisten(1);
        Check.same("all water", room.weightOf(1), 5);
        room.putInBox(0, 0);
        Check.same("in a box", room.weightOf(0), 0);
    }

    private static void obstacleNow() {
        HygrometerRoom room = six();
        for (int i = 0; i < 6; i++) {
            Check.same("outside " + i, room.calibrationObstacle(i), 1);
            room.putInBox(i, 0);
            Check.same("in a box " + i, room.calibrationObstacle(i), i == 3 || i == 5 ? 0 : 2);
        }
    }

    private static void obstacleEnds() {
        for (int salt = 0; salt < 4; salt++) {
            for (int way = -1; way <= 1; way++) {
                HygrometerRoom room = Rooms.of("room " + (FIXED[salt] + way) + " 0 0;hair 1;box 0 " + salt);
                Check.same("wetness off by " + way, room.calibrationObstacle(0), way == 0 ? 0 : 2);
                room.takeOut(0);
                Check.same("settled, but outside", room.calibrationObstacle(0), 1);
            }
        }
    }
}
