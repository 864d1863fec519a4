/** Boundary cases of promises 30 to 40: comparisons, forecasts and measures. */
final class WholeEdges {
    private static final Class<IllegalArgumentException> NO_ARGUMENT = IllegalArgumentException.class;

    private WholeEdges() {
    }

    static void run() {
        usable();
        searches();
        forecasts();
        measures();
    }

    private static void usable() {
        Sentences.in(30);
        Sentences.hold("Counts the usable instruments.", WholeEdges::usableNow);
        Sentences.hold("Returns the number of instruments.", WholeEdges::usableEnds);
        Sentences.in(31);
        Sentences.hold("Returns the blend.", WholeEdges::blendNow);
        Sentences.hold("Returns 0 to 100; NONE if there is no blend.", WholeEdges::blendEnds);
    }

    private static void searches() {
        Sentences.in(32);
        Sentences.hold("Finds the usable instrument whose reading is nearest to the humidity of the room.",
                WholeEdges::nearest);
        Sentences.hold("Returns the instrument, on a tie the one with the smallest number; NONE if no instrument is"
                + " usable.", WholeEdges::nearestTie);
        Sentences.in(33);
        Sentences.hold("Finds the hair hygrometer with the greatest slack.", WholeEdges::slackest);
        Sentences.hold("Returns the instrument, on a tie the one with the smallest number; NONE without hair"
                + " hygrometers.", WholeEdges::slackestTie);
        Sentences.in(34);
        Sentences.hold("Counts the instruments in salt boxes that are settled and whose reading is not the fixed"
                + " point.", WholeEdges::disagreeing);
        Sentences.hold("Returns the number of instruments.", WholeEdges::disagreeingEnds);
        Sentences.in(35);
        Sentences.hold("Returns the greatest difference of the readings of two usable instruments.",
                WholeEdges::spreadNow);
        Sentences.hold("Returns the greatest reading minus the smallest one; 0 if fewer than two instruments are"
                + " usable.", WholeEdges::spreadEnds);
    }

    private static void forecasts() {
        Sentences.in(36);
        Sentences.hold("Forecasts the reading of an instrument.", WholeEdges::forecast);
        Sentences.hold("The minute number may exceed 9999 in the forecast.", WholeEdges::forecastLate);
        Sentences.hold("`minutes`: 0 to 200", WholeEdges::forecastEnds);
        Sentences.hold("Returns the reading after so many minutes.", WholeEdges::forecastComesTrue);
        Sentences.hold("Throws `IllegalArgumentException` if minutes is out of range", WholeEdges::wrongMinutes);
        Sentences.in(37);
        Sentences.hold("Forecasts when a hair hygrometer is settled, or when a wet bulb has no water.",
                WholeEdges::stillForecast);
        Sentences.hold("The minute number may exceed 9999 in the forecast.", WholeEdges::stillLate);
        Sentences.hold("Returns the smallest number of minutes after which that is so, 0 if it is so now; NONE if"
                + " that does not happen within 200 minutes.", WholeEdges::stillEnds);
    }

    private static void measures() {
        Sentences.in(38);
        Sentences.hold("Checks the hairs.", WholeEdges::hairsMove);
        Sentences.hold("Returns the absolute value of the stock of hairs plus the hairs and broken hairs of all"
                + " instruments, minus the hairs of all instruments when they were added, minus the hairs that were"
                + " brought; always 0.", WholeEdges::hairsEnds);
        Sentences.in(39);
        Sentences.hold("Returns the mean reading of all instruments.", WholeEdges::meanNow);
        Sentences.hold("Returns the sum of the readings as a double, divided by the number of instruments as a"
                + " double; 0.0 without instruments.", WholeEdges::meanEnds);
        Sentences.in(40);
        Sentences.hold("Returns the share of the instruments that are usable.", WholeEdges::shareNow);
        Sentences.hold("Returns the number of usable instruments as a float, divided by the number of instruments as"
                + " a float; 0.0f without instruments.", WholeEdges::shareEnds);
    }

    private static HygrometerRoom six(int humidity) {
        return Rooms.of("room " + humidity + " 20 0;hair 4;bulb 1;hair 5;bulb 2;hair 6;bulb 3");
    }

    private static void usableNow() {
        HygrometerRoom room = six(50);
        room.putInBox(0, 0);
        Check.same("one in a box", room.usableInstruments(), 5);
        room.advance(1);
        Check.same("one dried", room.usableInstruments(), 4);
        Rooms.pass(room, 259);
        Check.same("the others dried or slack", room.usableInstruments(), 0);
        room.moisten(1);
        Check.same("one moistened", room.usableInstruments(), 1);
    }

    private static void usableEnds() {
        Check.same("none of none", Rooms.of("room 0 0 0").usableInstruments(), 0);
        HygrometerRoom room = six(50);
        for (int boxed = 0; boxed < 6; boxed++) {
            Check.same("of six", room.usableInstruments(), 6 - boxed);
            room.putInBox(boxed, boxed % 4);
        }
        Check.same("none of six", room.usableInstruments(), 0);
    }

    private static void blendNow() {
        HygrometerRoom room = Rooms.of("room 10 20 0;hair 5;bulb 1;bulb 0;humidity 20");
        Check.same("10 and 20 of equal weight", room.blend(), 15);
        room.setHumidity(21);
        Check.same("the bulb reads", room.readingOf(1), 24);
        Check.same("10 and 24", room.blend(), 17);
        room.setHumidity(19);
        Check.same("the bulb reads", room.readingOf(1), 20);
        room.advance(1);
        Check.same("the hairs alone", room.blend(), room.readingOf(0));
    }

    private static void blendEnds() {
        Check.same("least", six(0).blend(), 0);
        Check.same("greatest", six(100).blend(), 100);
        Check.same("no instruments", Rooms.of("room 50 0 0").blend(), -1);
        HygrometerRoom room = six(50);
        for (int i = 0; i < 6; i++) {
            Check.same("while " + i + " is usable", room.blend(), 50);
            room.putInBox(i, 0);
        }
        Check.same("all in boxes", room.blend(), -1);
    }

    private static void nearest() {
        HygrometerRoom room = Rooms.of("room 40 20 0;hair 20;humidity 50;hair 20;humidity 60;hair 20");
        int[] humidities = {0, 44, 45, 46, 54, 55, 56, 100};
        int[] due = {0, 0, 0, 1, 1, 1, 2, 2};
        for (int i = 0; i < humidities.length; i++) {
            room.setHumidity(humidities[i]);
            Check.same("at " + humidities[i], room.bestInstrument(), due[i]);
        }
        room.setHumidity(50);
        room.putInBox(1, 1);
        Check.same("the nearest is in a box", room.bestInstrument(), 0);
        room.setHumidity(51);
        Check.same("the nearest usable one", room.bestInstrument(), 2);
    }

    private static void nearestTie() {
        HygrometerRoom room = six(50);
        for (int i = 0; i < 6; i++) {
            Check.same("six alike, " + i + " in boxes", room.bestInstrument(), i);
            room.putInBox(i, 0);
        }
        Check.same("none usable", room.bestInstrument(), -1);
        Check.same("no instruments", Rooms.of("room 50 0 0").bestInstrument(), -1);
        HygrometerRoom far = Rooms.of("room 100 0 0;hair 1;humidity 0");
        Check.same("100 away", far.bestInstrument(), 0);
        HygrometerRoom sides = Rooms.of("room 60 0 0;hair 1;humidity 40;hair 1;humidity 50");
        Check.same("above and below", sides.bestInstrument(), 0);
    }

    private static void slackest() {
        HygrometerRoom room = Rooms.of("room 50 0 0;bulb 1;hair 1;minutes 10;hair 1;minutes 10;bulb 1;hair 1");
        Check.same("the oldest", room.slackestInstrument(), 1);
        room.putInBox(1, 0);
        Check.same("the oldest, in a box", room.slackestInstrument(), 1);
        room.takeOut(1);
        room.tighten(1);
        Check.same("the next", room.slackestInstrument(), 2);
        room.tighten(2);
        Check.same("none slack", room.slackestInstrument(), 1);
        room.advance(10);
        room.tighten(1);
        room.tighten(2);
        Check.same("the last", room.slackestInstrument(), 4);
    }

    private static void slackestTie() {
        HygrometerRoom room = six(50);
        Check.same("slack 0", room.slackestInstrument(), 0);
        Rooms.pass(room, 500);
        Check.same("slack 50", room.slackestInstrument(), 0);
        room.tighten(0);
        Check.same("the second of them", room.slackestInstrument(), 2);
        Check.same("wet bulbs alone", Rooms.of("room 50 0 0;bulb 0;bulb 60").slackestInstrument(), -1);
        Check.same("no instruments", Rooms.of("room 50 0 0").slackestInstrument(), -1);
        HygrometerRoom bare = Rooms.of("room 0 0 0;bulb 1;hair 1;tighten 1");
        Check.same("without hairs, slack 0", bare.slackestInstrument(), 1);
    }

    private static void disagreeing() {
        HygrometerRoom room = Rooms.of("room 33 0 0;hair 1;bulb 9;bulb 0;hair 20;minutes 49");
        room.moisten(1);
        Check.same("all outside", room.disagreements(), 0);
        room.putInBox(0, 0);
        Check.same("slack 4", room.disagreements(), 0);
        room.advance(1);
        Check.same("slack 5", room.disagreements(), 1);
        room.putInBox(1, 0);
        Check.same("a bulb", room.disagreements(), 2);
        room.putInBox(2, 0);
        Check.same("a bulb without water", room.disagreements(), 2);
        room.putInBox(3, 1);
        Check.same("a hair that is not settled", room.disagreements(), 2);
        room.advance(5);
        Check.same("the hair settled", room.disagreements(), 3);
        room.calibrate(0);
        Check.same("one calibrated", room.disagreements(), 2);
        room.takeOut(1);
        Check.same("one taken out", room.disagreements(), 1);
    }

    private static void disagreeingEnds() {
        Check.same("no instruments", Rooms.of("room 33 0 0").disagreements(), 0);
        HygrometerRoom room = Rooms.of("room 33 0 0;bulb 9;bulb 9;bulb 9;bulb 9;bulb 9;bulb 9");
        for (int i = 0; i < 6; i++) {
            Check.same("before " + i, room.disagreements(), i);
            room.putInBox(i, i % 4);
        }
        Check.same("all six", room.disagreements(), 6);
        for (int i = 0; i < 6; i++) {
            room.calibrate(i);
            Check.same("after " + i, room.disagreements(), 5 - i);
        }
    }

    private static void spreadNow() {
        HygrometerRoom room = Rooms.of("room 50 20 0;hair 1;humidity 40;hair 1;humidity 61;hair 1;bulb 0;humidity 0");
        Check.same("40 to 61", room.spread(), 21);
        room.putInBox(2, 0);
        Check.same("40 to 50", room.spread(), 10);
        room.moisten(3);
        Check.same("0 to 50", room.spread(), 50);
        room.putInBox(1, 0);
        Check.same("0 to 50 still", room.spread(), 50);
    }

    private static void spreadEnds() {
        Check.same("no instruments", Rooms.of("room 50 0 0").spread(), 0);
        HygrometerRoom room = Rooms.of("room 0 0 0;hair 20;bulb 1;humidity 100");
        Check.same("greatest", room.spread(), 100);
        room.putInBox(0, 0);
        Check.same("one usable", room.spread(), 0);
        room.putInBox(1, 0);
        Check.same("none usable", room.spread(), 0);
        HygrometerRoom other = Rooms.of("room 0 0 0;hair 20;bulb 1;humidity 100");
        other.putInBox(1, 0);
        Check.same("one usable, at 0", other.spread(), 0);
        Check.same("six alike", six(100).spread(), 0);
    }

    private static HygrometerRoom forecastRoom() {
        HygrometerRoom room = Rooms.of("room 95 20 5;hair 20;bulb 60;hair 1;bulb 0;hair 3;box 4 0;minutes 5");
        room.setHumidity(10);
        return room;
    }

    private static void forecast() {
        HygrometerRoom room = forecastRoom();
        String before = Rooms.whole(forecastRoom());
        for (int i = 0; i < 5; i++) {
            Check.same("now " + i, room.readingAfter(i, 0), room.readingOf(i));
            room.readingAfter(i, 200);
        }
        Check.same("nothing changes", Rooms.whole(room), before);
    }

    private static void forecastLate() {
        HygrometerRoom room = Rooms.of("room 50 0 0;hair 1;bulb 0");
        Rooms.pass(room, 9999);
        room.tighten(0);
        room.moisten(1);
        Check.same("at 9999", room.readingAfter(0, 0), 50);
        Check.same("at 10039", room.readingAfter(0, 40), 50);
        Check.same("at 10040", room.readingAfter(0, 41), 49);
        Check.same("at 10199", room.readingAfter(0, 200), 46);
        Check.same("the last water, at 10058", room.readingAfter(1, 59), 50);
        Check.same("no water, at 10059", room.readingAfter(1, 60), 100);
        Check.same("the minute stays", room.minute(), 9999);
    }

    private static void forecastEnds() {
        HygrometerRoom room = Rooms.of("room 0 0 0;hair 20;humidity 100;bulb 60;minutes 1");
        Check.same("hair after 0", room.readingAfter(0, 0), 2);
        Check.same("hair after 1", room.readingAfter(0, 1), 4);
        // Minute 200 is the 199th from now.
        Check.same("hair after 198", room.readingAfter(0, 198), 97);
        Check.same("hair after 199", room.readingAfter(0, 199), 96);
        Check.same("hair after 200", room.readingAfter(0, 200), 96);
        Check.same("bulb after 200", room.readingAfter(1, 200), 100);
    }

    private static void forecastComesTrue() {
        for (int minutes : new int[] {0, 1, 4, 5, 6, 42, 43, 44, 54, 55, 56, 99, 100, 199, 200}) {
            HygrometerRoom later = forecastRoom();
            Rooms.pass(later, minutes);
            for (int i = 0; i < 5; i++) {
                Check.same(i + " after " + minutes, forecastRoom().readingAfter(i, minutes), later.readingOf(i));
            }
        }
    }

    private static void wrongMinutes() {
        for (int minutes : new int[] {-1, 201, Integer.MIN_VALUE, Integer.MAX_VALUE}) {
            for (int i = 0; i < 2; i++) {
                int number = i;
                Check.refused(i + " after " + minutes, NO_ARGUMENT, Rooms::busy,
                        room -> room.readingAfter(number, minutes));
            }
        }
    }

    private static void stillForecast() {
        for (int i = 0; i < 5; i++) {
            int minutes = forecastRoom().minutesUntilStill(i);
            HygrometerRoom later = forecastRoom();
            for (int left = minutes; left > 0; left--) {
                Check.same(i + " not yet", later.isSettled(i), !later.isHair(i));
                later.advance(1);
            }
            Check.same(i + " then", later.isSettled(i), later.isHair(i));
        }
        HygrometerRoom room = forecastRoom();
        for (int i = 0; i < 5; i++) {
            room.minutesUntilStill(i);
        }
        Check.same("nothing changes", Rooms.whole(room), Rooms.whole(forecastRoom()));
    }

    private static void stillLate() {
        HygrometerRoom room = Rooms.of("room 0 0 0;hair 20;bulb 60");
        Rooms.pass(room, 9999);
        room.moisten(1);
        room.setHumidity(100);
        Check.same("a hair", room.minutesUntilStill(0), 50);
        Check.same("a bulb", room.minutesUntilStill(1), 60);
        Check.same("the minute stays", room.minute(), 9999);
    }

    private static void stillEnds() {
        HygrometerRoom room = Rooms.of("room 0 0 0;hair 20;bulb 0;bulb 1;bulb 60;hair 1;tighten 4");
        int[] due = {0, 0, 1, 60, 0};
        for (int i = 0; i < 5; i++) {
            Check.same("instrument " + i, room.minutesUntilStill(i), due[i]);
        }
        int[][] ways = {{0, 0}, {1, 1}, {2, 1}, {3, 2}, {98, 49}, {99, 50}, {100, 50}};
        for (int[] way : ways) {
            room.setHumidity(way[0]);
            Check.same("way of " + way[0], room.minutesUntilStill(0), way[1]);
            Check.same("without hairs, way of " + way[0], room.minutesUntilStill(4), way[0] == 0 ? 0 : -1);
        }
    }

    private static void hairsMove() {
        HygrometerRoom room = Rooms.of("room 5 20 5;hair 19;hair 1;bulb 4;minutes 60;tighten 0");
        Check.same("of a text", room.hairDifference(), 0);
        room.tighten(1);
        Check.same("all hairs of one broken", room.hairDifference(), 0);
        room.addHairs(0, 2);
        Check.same("up to 20", room.hairDifference(), 0);
        room.addHairs(1, 3);
        Check.same("the stock empty", room.hairDifference(), 0);
        room.undo();
        room.undo();
        Check.same("undone", room.hairDifference(), 0);
    }

    private static void hairsEnds() {
        Check.same("no instruments", Rooms.of("room 0 0 0").hairDifference(), 0);
        HygrometerRoom room = Rooms.of("room 0 0 5;hair 20;hair 20;hair 20;hair 20;hair 20;hair 20");
        room.save(0);
        Rooms.pass(room, 1260);
        Check.same("some hairs were too many", room.hairStock(), 99);
        Check.same("a full stock", room.hairDifference(), 0);
        for (int i = 0; i < 6; i++) {
            for (int broken = 0; broken < 20; broken++) {
                room.tighten(i);
            }
            Check.same("all of " + i + " broken", room.hairDifference(), 0);
        }
        room.addHairs(5, 20);
        Check.same("new ones", room.hairDifference(), 0);
        room.restore(0);
        Check.same("restored", room.hairDifference(), 0);
    }

    private static void meanNow() {
        HygrometerRoom room = Rooms.of("room 50 20 0;hair 1;bulb 0;hair 1;box 2 0");
        Check.same("50, 100 and 50", room.meanReading(), 200.0 / 3.0);
        room.advance(1);
        Check.same("50, 100 and 33", room.meanReading(), 61.0);
    }

    private static void meanEnds() {
        Check.same("no instruments", Rooms.of("room 50 0 0").meanReading(), 0.0);
        Check.same("one", Rooms.of("room 50 0 0;hair 1").meanReading(), 50.0);
        Check.same("least", six(0).meanReading(), 0.0);
        Check.same("greatest", six(100).meanReading(), 100.0);
        Check.same("two, a half", Rooms.of("room 1 0 0;hair 1;bulb 0").meanReading(), 50.5);
        Check.same("six, a sixth", Rooms.of("room 0 0 0;hair 1;hair 1;hair 1;hair 1;hair 1;humidity 1;hair 1")
                .meanReading(), 1.0 / 6.0);
    }

    private static void shareNow() {
        HygrometerRoom room = Rooms.of("room 50 20 0;hair 1;bulb 0;hair 1");
        Check.same("two of three", room.usableShare(), 2.0f / 3.0f);
        room.putInBox(0, 0);
        Check.same("one of three", room.usableShare(), 1.0f / 3.0f);
    }

    private static void shareEnds() {
        Check.same("no instruments", Rooms.of("room 50 0 0").usableShare(), 0.0f);
        HygrometerRoom room = six(50);
        for (int boxed = 0; boxed < 6; boxed++) {
            Check.same("of six", room.usableShare(), (6 - boxed) / 6.0f);
            room.putInBox(boxed, 0);
        }
        Check.same("none of six", room.usableShare(), 0.0f);
        Check.same("one of one", Rooms.of("room 50 0 0;hair 1").usableShare(), 1.0f);
    }
}
