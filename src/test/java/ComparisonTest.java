/** Promises 30 to 35: the questions about all instruments. */
public final class ComparisonTest {
    public static void main(String[] args) {
        without();
        usableAndBlend();
        best();
        slackest();
        disagreements();
        spread();
        formerInstruments();
        sixInstruments();
        Check.finish("ComparisonTest");
    }

    private static void without() {
        String[] texts = {"room 50 0 0", "room 50 0 0;bulb 0", "room 50 0 0;hair 5;bulb 5;box 0 0;box 1 0"};
        for (String text : texts) {
            HygrometerRoom room = Rooms.of(text);
            Check.same("30 " + text, room.usableInstruments(), 0);
            Check.same("31 " + text, room.blend(), -1);
            Check.same("32 " + text, room.bestInstrument(), -1);
            Check.same("35 " + text, room.spread(), 0);
        }
        Check.same("33 no instruments", Rooms.of("room 50 0 0").slackestInstrument(), -1);
        Check.same("33 wet bulbs alone", Rooms.of("room 50 0 0;bulb 3;bulb 0").slackestInstrument(), -1);
        Check.same("34 no instruments", Rooms.of("room 50 0 0").disagreements(), 0);
    }

    private static void usableAndBlend() {
        HygrometerRoom room = Rooms.of("room 20 20 0;hair 12;bulb 0;bulb 60;hair 1;box 3 2");
        Check.same("30 a hair and a bulb", room.usableInstruments(), 2);
        Check.same("31 all alike", room.blend(), 20);
        room.setHumidity(90);
        // The hairs still read 20 with weight 12, the bulb reads 90 with weight 5.
        Check.same("24 hair", room.readingOf(0), 20);
        Check.same("24 bulb", room.readingOf(2), 90);
        Check.same("31 truncated", room.blend(), 40);
        room.takeOut(3);
        Check.same("30 one more", room.usableInstruments(), 3);
        Check.same("31 one more", room.blend(), 39);
        room.moisten(1);
        Check.same("30 four", room.usableInstruments(), 4);
        Check.same("31 four", room.blend(), 50);
    }

    /** Instruments of a former text count no more, though it had more of them. */
    private static void formerInstruments() {
        HygrometerRoom room = Rooms.of("room 9 20 0;hair 2;hair 3;bulb 7;hair 5;minutes 10;box 2 0;bulb 3;bulb 2");
        Rooms.load(room, "room 50 20 0;bulb 5;bulb 0");
        Check.same("30 one", room.usableInstruments(), 1);
        Check.same("31 its reading", room.blend(), 50);
        Check.same("32 the first", room.bestInstrument(), 0);
        Check.same("33 none", room.slackestInstrument(), -1);
        Check.same("34 none", room.disagreements(), 0);
        Check.same("35 one alone", room.spread(), 0);
        Check.same("39 of two", room.meanReading(), 75.0);
        Check.same("40 of two", room.usableShare(), 0.5f);
        Check.same("55 of two", room.writeReadings(), 6);
    }

    private static void sixInstruments() {
        HygrometerRoom room = Rooms.of("room 50 20 0;bulb 9;hair 8;bulb 0;hair 6;bulb 0;bulb 9;box 3 1;box 5 3");
        Check.same("30 of six", room.usableInstruments(), 2);
        Check.same("31 of six", room.blend(), 50);
        Check.same("32 of six", room.bestInstrument(), 0);
        Check.same("33 of six", room.slackestInstrument(), 1);
        Check.same("34 of six", room.disagreements(), 1);
        Check.same("35 of six", room.spread(), 0);
    }

    private static void best() {
        HygrometerRoom two = Rooms.of("room 20 20 0;hair 4;hair 4");
        Check.same("32 the first", two.bestInstrument(), 0);
        Check.same("33 the first", two.slackestInstrument(), 0);
        Check.same("31 nothing added", Rooms.of("room 0 0 0;hair 1").blend(), 0);

        HygrometerRoom room = Rooms.of("room 20 20 0;bulb 0;hair 4;hair 20;bulb 60");
        Check.same("32 a tie", room.bestInstrument(), 1);
        room.setHumidity(90);
        Check.same("32 the bulb", room.bestInstrument(), 3);
        room.setHumidity(33);
        room.advance(2);
        Check.same("24 a fast hair", room.readingOf(1), 32);
        Check.same("24 a slow hair", room.readingOf(2), 24);
        Check.same("24 a bulb", room.readingOf(3), 34);
        Check.same("32 below and above", room.bestInstrument(), 1);
        room.putInBox(1, 0);
        Check.same("32 without the boxed one", room.bestInstrument(), 3);
        room.putInBox(3, 0);
        Check.same("32 what is left", room.bestInstrument(), 2);
        room.putInBox(2, 0);
        Check.same("32 nothing left", room.bestInstrument(), -1);
    }

    private static void slackest() {
        HygrometerRoom room = Rooms.of("room 50 20 0;bulb 5;hair 5;hair 5;hair 5");
        Check.same("33 none slack", room.slackestInstrument(), 1);
        room.advance(10);
        Check.same("33 a tie", room.slackestInstrument(), 1);
        room.tighten(1);
        Check.same("33 the next", room.slackestInstrument(), 2);
        room.putInBox(2, 1);
        Check.same("33 in a box", room.slackestInstrument(), 2);
        room.tighten(2);
        Check.same("33 the last", room.slackestInstrument(), 3);
        HygrometerRoom bare = Rooms.of("room 10 20 0;hair 5;hair 1;tighten 1;minutes 10;tighten 0");
        Check.same("33 without hairs", bare.slackestInstrument(), 1);
    }

    private static void disagreements() {
        HygrometerRoom room = Rooms.of("room 33 20 0;hair 20;bulb 60;bulb 0;hair 5;minutes 50");
        Check.same("34 outside", room.disagreements(), 0);
        room.putInBox(0, 0);
        Check.same("34 a slack hair", room.disagreements(), 1);
        room.putInBox(1, 0);
        Check.same("34 a bulb", room.disagreements(), 2);
        room.putInBox(2, 0);
        Check.same("34 not settled", room.disagreements(), 2);
        room.putInBox(3, 3);
        Check.same("34 not settled either", room.disagreements(), 2);
        room.calibrate(0);
        Check.same("34 calibrated", room.disagreements(), 1);
        room.moisten(2);
        Check.same("34 settled now", room.disagreements(), 2);
        room.calibrate(1);
        room.calibrate(2);
        Check.same("34 all calibrated", room.disagreements(), 0);
    }

    private static void spread() {
        HygrometerRoom room = Rooms.of("room 20 20 0;bulb 0;hair 20;bulb 60;bulb 60;hair 1");
        Check.same("35 alike", room.spread(), 0);
        HygrometerRoom zero = Rooms.of("room 0 20 0;hair 1;hair 20");
        Check.same("35 alike at 0", zero.spread(), 0);
        zero.setHumidity(100);
        zero.advance(1);
        Check.same("35 the first and the last", zero.spread(), 19);
        room.setHumidity(90);
        Check.same("35 hairs and bulbs", room.spread(), 70);
        room.advance(1);
        Check.same("35 without what is between", room.spread(), 68);
        room.putInBox(1, 0);
        Check.same("35 without the boxed one", room.spread(), 49);
        room.putInBox(4, 0);
        Check.same("35 two alike", room.spread(), 0);
        room.putInBox(3, 0);
        Check.same("35 one alone", room.spread(), 0);
    }
}
