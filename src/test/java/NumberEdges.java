/** Boundary cases of the number of an instrument, for each call that takes one. */
final class NumberEdges {
    private static final Class<IndexOutOfBoundsException> NO_INDEX = IndexOutOfBoundsException.class;

    private NumberEdges() {
    }

    static void run() {
        String[] questions = {"isHair", "hairsOf", "brokenOf", "wetnessOf", "slackOf", "waterOf", "depressionOf",
            "zeroOf", "boxOf", "surroundingOf", "rawValue", "readingOf", "errorOf", "isSettled", "whyUnusable",
            "weightOf", "calibrationObstacle"};
        for (int i = 0; i < questions.length; i++) {
            hold(13 + i, questions[i]);
        }
        hold(36, "readingAfter");
        hold(37, "minutesUntilStill");
        String[] changes = {"putInBox", "takeOut", "calibrate", "tighten", "moisten", "addHairs"};
        for (int i = 0; i < changes.length; i++) {
            hold(45 + i, changes[i]);
        }
        hold(54, "writeInstrument");
    }

    private static void hold(int promise, String name) {
        Sentences.in(promise);
        Sentences.hold("`instrument`: an instrument", () -> eachInstrument(name));
        Sentences.hold("Throws `IndexOutOfBoundsException` if there is no such instrument", () -> noInstrument(name));
    }

    /** As many instruments as told, each of which the call takes. */
    private static HygrometerRoom room(String name, int count) {
        boolean boxed = name.equals("takeOut") || name.equals("calibrate");
        String kind = boxed || name.equals("moisten") ? ";bulb 9" : ";hair 9";
        StringBuilder text = new StringBuilder("room 50 20 5;minutes 60");
        for (int i = 0; i < count; i++) {
            text.append(kind);
        }
        for (int i = 0; i < count && boxed; i++) {
            text.append(";box ").append(i).append(" 3");
        }
        return Rooms.of(text.toString());
    }

    private static Object make(HygrometerRoom room, String name, int number) {
        return switch (name) {
            case "readingAfter", "addHairs" -> Calls.make(room, name, number, 1);
            case "putInBox" -> Calls.make(room, name, number, 3);
            default -> Calls.make(room, name, number);
        };
    }

    private static void eachInstrument(String name) {
        for (int count : new int[] {1, 2, 6}) {
            for (int number = 0; number < count; number++) {
                HygrometerRoom room = room(name, count);
                Check.same(name + " of " + number + " of " + count + " answers", answers(room, name, number), true);
            }
        }
    }

    private static boolean answers(HygrometerRoom room, String name, int number) {
        try {
            return make(room, name, number) != null;
        } catch (RuntimeException e) {
            return false;
        }
    }

    private static void noInstrument(String name) {
        for (int count : new int[] {0, 1, 5, 6}) {
            for (int number : new int[] {-1, count, 6, 7, 255, 256, Integer.MIN_VALUE, Integer.MAX_VALUE}) {
                HygrometerRoom room = room(name, count);
                Check.refuses(name + " of " + number + " of " + count, NO_INDEX, room, () -> make(room, name, number));
            }
        }
        for (int number : new int[] {-1, 2, 6, Integer.MIN_VALUE, Integer.MAX_VALUE}) {
            Check.refused(name + " of " + number + " of 2", NO_INDEX, Rooms::busy, room -> make(room, name, number));
        }
        formerInstruments(name);
    }

    /** Instruments of a former text are no more, though there were more of them. */
    private static void formerInstruments(String name) {
        HygrometerRoom room = room(name, 6);
        Rooms.load(room, "room 50 20 5;bulb 9");
        for (int number = 1; number < 6; number++) {
            int former = number;
            Check.refuses(name + " of the former " + number, NO_INDEX, room, () -> make(room, name, former));
        }
    }
}
