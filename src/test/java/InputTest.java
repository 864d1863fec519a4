/** Promises 1 to 5: a new object, the input buffer, and what load() does and reports. */
public final class InputTest {
    private static final Class<IndexOutOfBoundsException> NO_INDEX = IndexOutOfBoundsException.class;
    private static final Class<IllegalArgumentException> NO_ARGUMENT = IllegalArgumentException.class;
    private static final Class<IllegalStateException> NO_STATE = IllegalStateException.class;

    public static void main(String[] args) {
        newObject();
        appendCounts();
        appendOrder();
        appendRefusesAFullBuffer();
        loadTakesTheFirstBytes();
        loadRefusesLengths();
        loadDiscards();
        loadBeginsAnew();
        loadWithAnError();
        loadKeepsTheOutput();
        errorOfTheLastCall();
        Check.finish("InputTest");
    }

    private static void newObject() {
        HygrometerRoom room = new HygrometerRoom();
        Check.same("1 state", Rooms.state(room),
                "minute 5 humidity 50 temperature 20 skill 2 stock 0 difference 0"
                        + "; hair 10 broken 0 wetness 50 slack 0 zero 0 box -1"
                        + "; hair 4 broken 0 wetness 62 slack 0 zero 0 box 2"
                        + "; bulb 25 zero 0 box -1; bulb 0 zero 0 box -1");
        Check.same("1 like the text", Rooms.state(room), Rooms.state(Rooms.of(Rooms.FIRST_TEXT)));
        Check.same("1 no output", Rooms.output(room), "");
        Check.same("1 no error", room.errorKind(), 0);
        Check.same("1 no offset", room.errorOffset(), -1);
        Check.refuses("1 nothing to undo", NO_STATE, room, room::undo);
        Check.refuses("1 nothing saved in 0", NO_STATE, room, () -> room.restore(0));
        Check.refuses("1 nothing saved in 1", NO_STATE, room, () -> room.restore(1));
        Check.refuses("1 no input", NO_INDEX, room, () -> room.load(1));
    }

    private static void appendCounts() {
        HygrometerRoom room = new HygrometerRoom();
        for (int calls = 1; calls <= 30; calls++) {
            Check.same("2 length", room.append(-1, 0, 1, Integer.MIN_VALUE, Integer.MAX_VALUE), 20 * calls);
        }
    }

    private static void appendOrder() {
        HygrometerRoom room = new HygrometerRoom();
        int a = 'r' << 24 | 'o' << 16 | 'o' << 8 | 'm';
        int b = ' ' << 24 | '1' << 16 | '2' << 8 | ' ';
        int c = '3' << 24 | '4' << 16 | ' ' << 8 | '5';
        int d = ';' << 24 | 'h' << 16 | 'a' << 8 | 'i';
        int e = 'r' << 24 | '\n' << 16 | '2' << 8 | '0';
        Check.same("2 length of one call", room.append(a, b, c, d, e), 20);
        Check.same("2 load", room.load(20), 1);
        Check.same("2 bytes in order", Rooms.state(room),
                "minute 0 humidity 12 temperature 34 skill 5 stock 0 difference 0"
                        + "; hair 20 broken 0 wetness 12 slack 0 zero 0 box -1");
    }

    private static void appendRefusesAFullBuffer() {
        HygrometerRoom room = new HygrometerRoom();
        Rooms.append(room, "room 1 2 3" + " ".repeat(590));
        Check.refuses("2 a full buffer", NO_STATE, room, () -> room.append(0, 0, 0, 0, 0));
        Check.refuses("2 the buffer stays", NO_INDEX, room, () -> room.load(601));
        Check.same("3 the whole buffer", room.load(600), 0);
        Check.same("3 humidity", room.humidity(), 1);
        Check.same("2 after load", room.append(0, 0, 0, 0, 0), 20);
    }

    private static void loadTakesTheFirstBytes() {
        HygrometerRoom room = new HygrometerRoom();
        Rooms.append(room, "room 60 20 2; hair 10");
        Check.same("3 a part", room.load(12), 0);
        Check.same("3 replaces all", Rooms.state(room),
                "minute 0 humidity 60 temperature 20 skill 2 stock 0 difference 0");
        Check.refuses("3 empties the buffer", NO_INDEX, room, () -> room.load(1));
        Rooms.append(room, "room 60 20 2; hair 10");
        Check.same("3 a digit less", room.load(20), 1);
        Check.same("3 its hairs", room.hairsOf(0), 1);
        Check.same("3 six", Rooms.load(room, "room 0 0 0;bulb 0;bulb 0;bulb 0;hair 1;hair 1;hair 1"), 6);
    }

    private static void loadRefusesLengths() {
        HygrometerRoom room = new HygrometerRoom();
        Check.refuses("3 length 1 of 0", NO_INDEX, room, () -> room.load(1));
        Rooms.append(room, "rook");
        Check.fails("3 an error", NO_ARGUMENT, () -> room.load(4));
        Rooms.append(room, "room 7 8 5");
        Check.refuses("3 length -1", NO_INDEX, room, () -> room.load(-1));
        Check.refuses("3 length 21", NO_INDEX, room, () -> room.load(21));
        Check.refuses("3 the least length", NO_INDEX, room, () -> room.load(Integer.MIN_VALUE));
        Check.refuses("3 the greatest length", NO_INDEX, room, () -> room.load(Integer.MAX_VALUE));
        Check.same("4 the error stays", room.errorKind(), 1);
        Check.same("5 the offset stays", room.errorOffset(), 0);
        Check.same("3 the buffer stays", room.load(10), 0);
        Check.same("3 its humidity", room.humidity(), 7);
    }

    private static void loadDiscards() {
        HygrometerRoom room = new HygrometerRoom();
        room.save(0);
        room.save(1);
        room.setHumidity(3);
        Check.same("3 load", Rooms.load(room, "room 1 2 3"), 0);
        Check.refuses("3 discards the changes", NO_STATE, room, room::undo);
        Check.refuses("3 discards slot 0", NO_STATE, room, () -> room.restore(0));
        Check.refuses("3 discards slot 1", NO_STATE, room, () -> room.restore(1));
        room.setHumidity(9);
        Check.same("3 new changes", room.undo(), 0);
    }

    /** Nothing of an earlier text is left, be it that of a good one or of one with an error. */
    private static void loadBeginsAnew() {
        String rich = "room 10 20 5;hair 3;bulb 9;hair 2;tighten 0;box 0 1;box 1 2;minutes 60";
        for (String earlier : new String[] {rich, rich + ";hair 0"}) {
            HygrometerRoom room = new HygrometerRoom();
            Rooms.append(room, earlier);
            try {
                room.load(earlier.length());
            } catch (IllegalArgumentException e) {
                Check.same("4 kind", room.errorKind(), 2);
            }
            Check.same("3 anew", Rooms.load(room, "room 30 40 1;bulb 5;hair 7;hair 2;minutes 1"), 3);
            Check.same("3 state anew", Rooms.state(room),
                    "minute 1 humidity 30 temperature 40 skill 1 stock 0 difference 0; bulb 4 zero 0 box -1"
                            + "; hair 7 broken 0 wetness 30 slack 0 zero 0 box -1"
                            + "; hair 2 broken 0 wetness 30 slack 0 zero 0 box -1");
            Check.same("19 depression anew", room.depressionOf(0), 35);
            Check.same("3 less instruments", Rooms.load(room, "room 0 0 0;bulb 1"), 1);
            Check.same("3 state anew again", Rooms.state(room),
                    "minute 0 humidity 0 temperature 0 skill 0 stock 0 difference 0; bulb 1 zero 0 box -1");
        }
    }

    private static void loadWithAnError() {
        HygrometerRoom room = new HygrometerRoom();
        room.save(1);
        room.advance(7);
        room.setSkill(4);
        String before = Rooms.state(room);
        Rooms.append(room, "room 1 2 3; hair 5; minutes 9; hair 21");
        Check.fails("3 an error", NO_ARGUMENT, () -> room.load(38));
        Check.same("3 alters no state", Rooms.state(room), before);
        Check.same("4 kind", room.errorKind(), 2);
        Check.same("5 offset", room.errorOffset(), 36);
        Check.fails("3 empties the buffer", NO_INDEX, () -> room.load(1));
        Check.same("3 keeps the changes", room.undo(), 1);
        Check.same("3 keeps the older changes", room.undo(), 0);
        Check.same("3 keeps the saved states", room.restore(1), 5);
        Check.fails("3 an empty text", NO_ARGUMENT, () -> room.load(0));
        Check.same("4 an empty text", room.errorKind(), 1);
        Check.same("5 an empty text", room.errorOffset(), 0);
    }

    private static void loadKeepsTheOutput() {
        HygrometerRoom room = new HygrometerRoom();
        room.writeInstrument(1);
        Rooms.load(room, "room 1 2 3");
        Check.same("3 keeps the output", Rooms.output(room), "h62s2");
        Rooms.append(room, "x");
        Check.fails("3 an error", NO_ARGUMENT, () -> room.load(1));
        Check.same("3 keeps the output of an error too", Rooms.output(room), "h62s2");
    }

    private static void errorOfTheLastCall() {
        HygrometerRoom room = new HygrometerRoom();
        Rooms.append(room, "room 1 2 9");
        Check.fails("4 an error", NO_ARGUMENT, () -> room.load(10));
        Check.same("4 kind", room.errorKind(), 2);
        Check.same("5 offset", room.errorOffset(), 9);
        room.setHumidity(1);
        room.undo();
        Check.same("4 undo leaves it", room.errorKind(), 2);
        Check.same("5 undo leaves it", room.errorOffset(), 9);
        Rooms.load(room, "room 1 2 3");
        Check.same("4 none after a good text", room.errorKind(), 0);
        Check.same("5 none after a good text", room.errorOffset(), -1);
    }
}
