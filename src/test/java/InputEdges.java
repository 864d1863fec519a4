/** Boundary cases of promises 1 to 5. */
final class InputEdges {
    private static final Class<IndexOutOfBoundsException> NO_INDEX = IndexOutOfBoundsException.class;
    private static final Class<IllegalArgumentException> NO_ARGUMENT = IllegalArgumentException.class;
    private static final Class<IllegalStateException> NO_STATE = IllegalStateException.class;
    private static final int SPACES = 0x20202020;

    private InputEdges() {
    }

    static void run() {
        Sentences.in(1);
        Sentences.hold("Creates the simulator in the state that the class comment describes.", InputEdges::created);
        append();
        load();
        errors();
    }

    private static void append() {
        Sentences.in(2);
        Sentences.hold("Appends 20 bytes to the input buffer: the four bytes of each parameter in order, most"
                + " significant byte first.", InputEdges::twentyBytes);
        Sentences.hold("`a`: the first four bytes", () -> fourBytes(0));
        Sentences.hold("`b`: the next four bytes", () -> fourBytes(1));
        Sentences.hold("`c`: the next four bytes", () -> fourBytes(2));
        Sentences.hold("`d`: the next four bytes", () -> fourBytes(3));
        Sentences.hold("`e`: the last four bytes", () -> fourBytes(4));
        Sentences.hold("Returns the new length of the buffer.", InputEdges::newLength);
        Sentences.hold("Throws `IllegalStateException` if the buffer would be longer than 600 bytes",
                InputEdges::fullBuffer);
    }

    private static void load() {
        Sentences.in(3);
        Sentences.hold("Parses the first bytes of the input buffer as a description and replaces the whole state by"
                + " the result.", InputEdges::firstBytes);
        Sentences.hold("The recorded changes and the saved states are discarded.", InputEdges::discarded);
        Sentences.hold("The output buffer stays as it is.", InputEdges::outputStays);
        Sentences.hold("The input buffer is empty afterwards, also if the text has an error.", InputEdges::emptied);
        Sentences.hold("`length`: the number of bytes to parse, 0 to the length of the buffer", InputEdges::lengths);
        Sentences.hold("Returns the number of instruments.", InputEdges::counted);
        Sentences.hold("Throws `IndexOutOfBoundsException` if length is out of range; the input buffer and the"
                + " reported error stay as they are", InputEdges::wrongLengths);
        Sentences.hold("Throws `IllegalArgumentException` if the text has an error; only the input buffer and the"
                + " reported error change", InputEdges::wrongText);
    }

    private static void errors() {
        Sentences.in(4);
        Sentences.hold("Returns the kind of the error that the last call of load() reported.", InputEdges::lastKind);
        Sentences.hold("Returns 1 to 5; 0 if that call found no error or if no text has been parsed yet.",
                InputEdges::allKinds);
        Sentences.in(5);
        Sentences.hold("Returns the offset of the error that the last call of load() reported.",
                InputEdges::lastOffset);
        Sentences.hold("Returns the offset in bytes; NONE if errorKind() is 0.", InputEdges::allOffsets);
    }

    private static void created() {
        HygrometerRoom room = new HygrometerRoom();
        Check.same("the state", Rooms.state(room), "minute 5 humidity 50 temperature 20 skill 2 stock 0 difference 0"
                + "; hair 10 broken 0 wetness 50 slack 0 zero 0 box -1; hair 4 broken 0 wetness 62 slack 0 zero 0 box 2"
                + "; bulb 25 zero 0 box -1; bulb 0 zero 0 box -1");
        Check.same("nothing to undo", Rooms.answer(room::undo), "IllegalStateException");
        Check.same("nothing saved", Rooms.answer(() -> room.restore(0)), "IllegalStateException");
        Check.same("nothing saved", Rooms.answer(() -> room.restore(1)), "IllegalStateException");
        room.setHumidity(1);
        Check.same("objects are apart", new HygrometerRoom().humidity(), 50);
    }

    private static void twentyBytes() {
        HygrometerRoom room = new HygrometerRoom();
        int[] words = {0x726f6f6d, 0x20310a32, 0x20333b68, 0x61697220, 0x32302020};
        Check.same("length", room.append(words[0], words[1], words[2], words[3], words[4]), 20);
        Check.same("all 20 bytes", room.load(20), 1);
        Check.same("the text", Rooms.state(room), "minute 0 humidity 1 temperature 2 skill 3 stock 0 difference 0"
                + "; hair 20 broken 0 wetness 1 slack 0 zero 0 box -1");
    }

    /** Among spaces, a byte that starts no token tells where it stands by the offset of its error. */
    private static void fourBytes(int parameter) {
        for (int place = 0; place < 4; place++) {
            for (int sign : new int[] {0, 1, 127, 128, 255}) {
                int shift = 24 - 8 * place;
                int[] words = {SPACES, SPACES, SPACES, SPACES, SPACES};
                words[parameter] = SPACES & ~(255 << shift) | sign << shift;
                for (int before = 0; before <= 580; before += 580) {
                    HygrometerRoom room = new HygrometerRoom();
                    Rooms.append(room, " ".repeat(before));
                    int length = room.append(words[0], words[1], words[2], words[3], words[4]);
                    Check.same("an error", Rooms.answer(() -> room.load(length)), "IllegalArgumentException");
                    Check.same("its kind", room.errorKind(), 1);
                    Check.same("its place", room.errorOffset(), before + 4 * parameter + place);
                }
            }
        }
    }

    private static void newLength() {
        HygrometerRoom room = new HygrometerRoom();
        for (int calls = 1; calls <= 30; calls++) {
            Check.same("call " + calls, room.append(-1, 0, Integer.MIN_VALUE, Integer.MAX_VALUE, 1), 20 * calls);
        }
        Check.fails("no text", NO_ARGUMENT, () -> room.load(600));
        Check.same("after load", room.append(-1, 0, Integer.MIN_VALUE, Integer.MAX_VALUE, 1), 20);
    }

    private static HygrometerRoom filled(int bytes) {
        HygrometerRoom room = new HygrometerRoom();
        Rooms.append(room, "room 1 2 3;bulb 4" + " ".repeat(bytes - 17));
        return room;
    }

    private static void fullBuffer() {
        HygrometerRoom room = filled(560);
        Check.same("to 580", room.append(SPACES, SPACES, SPACES, SPACES, SPACES), 580);
        Check.same("to 600", room.append(SPACES, SPACES, SPACES, SPACES, SPACES), 600);
        Check.fails("beyond 600", NO_STATE, () -> room.append(SPACES, SPACES, SPACES, SPACES, SPACES));
        Check.fails("beyond 600 again", NO_STATE, () -> room.append(0, 0, 0, 0, 0));
        Check.same("all of the 600", room.load(600), 1);
        Check.refused("a full buffer", NO_STATE, () -> filled(600), x -> x.append(0, 0, 0, 0, 0));
    }

    private static void firstBytes() {
        String text = "room 1 2 3;hair 20;minutes 60;tighten 0;box 0 1#";
        int[] lengths = {10, 17, 18, 28, 29, 39, 47};
        String[] due = {
            "minute 0 humidity 1 temperature 2 skill 3 stock 0 difference 0",
            "minute 0 humidity 1 temperature 2 skill 3 stock 0 difference 0"
                    + "; hair 2 broken 0 wetness 1 slack 0 zero 0 box -1",
            "minute 0 humidity 1 temperature 2 skill 3 stock 0 difference 0"
                    + "; hair 20 broken 0 wetness 1 slack 0 zero 0 box -1",
            "minute 6 humidity 1 temperature 2 skill 3 stock 0 difference 0"
                    + "; hair 20 broken 0 wetness 1 slack 0 zero 0 box -1",
            "minute 60 humidity 1 temperature 2 skill 3 stock 3 difference 0"
                    + "; hair 20 broken 0 wetness 1 slack 6 zero 0 box -1",
            "minute 60 humidity 1 temperature 2 skill 3 stock 3 difference 0"
                    + "; hair 19 broken 1 wetness 1 slack 0 zero 0 box -1",
            "minute 60 humidity 1 temperature 2 skill 3 stock 3 difference 0"
                    + "; hair 19 broken 1 wetness 1 slack 0 zero 0 box 1",
        };
        HygrometerRoom room = Rooms.of("room 9 9 5;bulb 9;hair 9;bulb 8;box 2 2;minutes 99");
        for (int i = lengths.length - 1; i >= 0; i--) {
            Rooms.append(room, text);
            room.load(lengths[i]);
            Check.same("the first " + lengths[i], Rooms.state(room), due[i]);
        }
        nothingIsLeft();
    }

    /** Each place of an instrument has this kind first, then that one: only the last text tells the state. */
    private static void nothingIsLeft() {
        String hairs = "room 10 5 5;hair 2;hair 3;tighten 0;tighten 1;hair 4;hair 5;hair 6;hair 20;box 5 1;minutes 60";
        String bulbs = "room 90 6 4;bulb 0;bulb 1;bulb 59;bulb 60;bulb 2;bulb 3;box 0 3;minutes 1";
        String mixed = "room 50 7 3;bulb 9;hair 9";
        HygrometerRoom room = new HygrometerRoom();
        for (String text : new String[] {hairs, bulbs, hairs, mixed, "room 1 2 3", bulbs}) {
            Rooms.load(room, text);
            Check.same("the state of " + text, Rooms.state(room), Rooms.state(Rooms.of(text)));
            Check.same("the hairs of " + text, room.hairDifference(), 0);
        }
    }

    private static void discarded() {
        for (int changes : new int[] {0, 1, 10, 11}) {
            HygrometerRoom room = new HygrometerRoom();
            room.save(0);
            room.save(1);
            for (int humidity = 1; humidity <= changes; humidity++) {
                room.setHumidity(humidity);
            }
            Rooms.load(room, "room 9 0 0");
            Check.refuses("no change of " + changes, NO_STATE, room, room::undo);
            Check.refuses("nothing in slot 0", NO_STATE, room, () -> room.restore(0));
            Check.refuses("nothing in slot 1", NO_STATE, room, () -> room.restore(1));
            room.setHumidity(8);
            Check.same("the new change alone", room.undo(), 0);
            Check.same("the state of the text", room.humidity(), 9);
        }
    }

    private static void outputStays() {
        HygrometerRoom room = new HygrometerRoom();
        Rooms.load(room, "room 0 0 0;bulb 0;bulb 0;bulb 0;bulb 0;bulb 0;bulb 0");
        Check.same("no output", Rooms.output(room), "");
        room.writeReadings();
        Rooms.load(room, "room 0 0 0");
        Check.same("the output of six", Rooms.output(room), "100 100 100 100 100 100");
        Check.fails("an empty text", NO_ARGUMENT, () -> room.load(0));
        Check.same("the output after an error", Rooms.output(room), "100 100 100 100 100 100");
    }

    private static void emptied() {
        for (int bytes : new int[] {20, 40, 580, 600}) {
            for (int length : new int[] {0, 5, 10, 11, 17, bytes - 1, bytes}) {
                HygrometerRoom room = filled(bytes);
                String answer = Rooms.answer(() -> room.load(length));
                boolean good = length == 10 || length >= 17;
                Check.same("load of " + length, answer.endsWith("Exception"), !good);
                Check.same("empty after " + length, Rooms.answer(() -> room.load(1)), "IndexOutOfBoundsException");
                Check.same("length after " + length, room.append(0, 0, 0, 0, 0), 20);
            }
        }
    }

    private static void lengths() {
        HygrometerRoom room = new HygrometerRoom();
        Check.same("0 of 0", Rooms.answer(() -> room.load(0)), "IllegalArgumentException");
        Check.same("kind of 0 of 0", room.errorKind(), 1);
        Check.same("1 of 0", Rooms.answer(() -> room.load(1)), "IndexOutOfBoundsException");
        Check.same("0 of 20", Rooms.answer(() -> filled(20).load(0)), "IllegalArgumentException");
        Check.same("1 of 20", Rooms.answer(() -> filled(20).load(1)), "IllegalArgumentException");
        Check.same("19 of 20", Rooms.answer(() -> filled(20).load(19)), "1");
        Check.same("20 of 20", Rooms.answer(() -> filled(20).load(20)), "1");
        Check.same("21 of 20", Rooms.answer(() -> filled(20).load(21)), "IndexOutOfBoundsException");
        Check.same("599 of 600", Rooms.answer(() -> filled(600).load(599)), "1");
        Check.same("600 of 600", Rooms.answer(() -> filled(600).load(600)), "1");
        Check.same("601 of 600", Rooms.answer(() -> filled(600).load(601)), "IndexOutOfBoundsException");
    }

    private static void counted() {
        StringBuilder text = new StringBuilder("room 0 0 0");
        HygrometerRoom room = new HygrometerRoom();
        for (int count = 0; count <= 6; count++) {
            Check.same("instruments", Rooms.load(room, text.toString()), count);
            Check.same("as many as there are", room.instrumentCount(), count);
            text.append(count % 2 == 0 ? ";hair 1" : ";bulb 0");
        }
        Check.same("none after six", Rooms.load(room, "room 0 0 0"), 0);
    }

    private static void wrongLengths() {
        for (int length : new int[] {-1, 41, 600, 601, Integer.MIN_VALUE, Integer.MAX_VALUE}) {
            Check.refused("length " + length + " of 40", NO_INDEX, Rooms::busy, room -> room.load(length));
        }
        for (int length : new int[] {-1, 601, Integer.MIN_VALUE, Integer.MAX_VALUE}) {
            Check.refused("length " + length + " of 600", NO_INDEX, () -> filled(600), room -> room.load(length));
        }
        for (int length : new int[] {-1, 1, 20, 600}) {
            Check.refused("length " + length + " of 0", NO_INDEX, HygrometerRoom::new, room -> room.load(length));
        }
        HygrometerRoom room = Rooms.busy();
        Check.fails("length 41", NO_INDEX, () -> room.load(41));
        Check.same("the kind stays", room.errorKind(), 2);
        Check.same("the offset stays", room.errorOffset(), 9);
        Check.same("the text stays", room.load(27), 1);
    }

    private static void wrongText() {
        HygrometerRoom room = Rooms.busy();
        Check.fails("a text cut off", NO_ARGUMENT, () -> room.load(26));
        Check.same("the kind changes", room.errorKind(), 1);
        Check.same("the offset changes", room.errorOffset(), 26);
        Check.same("the input is gone", Rooms.answer(() -> room.load(1)), "IndexOutOfBoundsException");
        // With its old error and its old text again, the room is to hold what it held.
        Rooms.append(room, "room 1 2 6");
        Check.fails("the old error", NO_ARGUMENT, () -> room.load(10));
        Rooms.append(room, "room 7 8 3;bulb 9;minutes 5");
        Check.same("all else stays", Rooms.whole(room), Rooms.whole(Rooms.busy()));
    }

    private static void lastKind() {
        HygrometerRoom room = new HygrometerRoom();
        String[] texts = {"room 0 0 6", "room", "room 0 0 0;bulb 1;tighten 0", "room 0 0 0"};
        int[] due = {2, 1, 3, 0};
        for (int i = 0; i < texts.length; i++) {
            String text = texts[i];
            Rooms.answer(() -> Rooms.load(room, text));
            Check.same("kind of " + text, room.errorKind(), due[i]);
            Check.fails("no such length", NO_INDEX, () -> room.load(601));
            room.setHumidity(i);
            Check.same("kind long after " + text, room.errorKind(), due[i]);
        }
    }

    private static void allKinds() {
        String six = "room 0 0 0;bulb 1;bulb 1;bulb 1;bulb 1;bulb 1;bulb 1;";
        String[] texts = {six + "out 0;", six + "hair 1", six + "tighten 0", six + "tighten 6", six, six + "box 0 0"};
        int[] due = {5, 4, 3, 2, 1, 0};
        HygrometerRoom room = new HygrometerRoom();
        Check.same("no text yet", room.errorKind(), 0);
        Check.fails("no text parsed", NO_INDEX, () -> room.load(1));
        Check.same("still no text", room.errorKind(), 0);
        for (int i = 0; i < texts.length; i++) {
            String text = texts[i];
            Rooms.answer(() -> Rooms.load(room, text));
            Check.same("kind of " + text, room.errorKind(), due[i]);
        }
    }

    private static void lastOffset() {
        HygrometerRoom room = new HygrometerRoom();
        String[] texts = {"room 0 0 6", "x", "room 0 0 0;bulb 1;tighten 0", "room 0 0 0", "room 41 41 0"};
        int[] due = {9, 0, 26, -1, 8};
        for (int i = 0; i < texts.length; i++) {
            String text = texts[i];
            Rooms.answer(() -> Rooms.load(room, text));
            Check.same("offset of " + text, room.errorOffset(), due[i]);
            Check.fails("no such length", NO_INDEX, () -> room.load(-1));
            room.setHumidity(i);
            Check.same("offset long after " + text, room.errorOffset(), due[i]);
        }
    }

    private static void allOffsets() {
        HygrometerRoom room = new HygrometerRoom();
        Check.same("no text yet", room.errorOffset(), -1);
        Check.fails("no byte", NO_ARGUMENT, () -> room.load(0));
        Check.same("the least offset", room.errorOffset(), 0);
        for (int offset : new int[] {0, 1, 127, 128, 255, 256, 598, 599}) {
            String text = " ".repeat(offset) + "#";
            Check.same("text", Rooms.answer(() -> Rooms.load(room, text)), "IllegalArgumentException");
            Check.same("offset", room.errorOffset(), offset);
        }
        Check.same("blanks alone", Rooms.answer(() -> Rooms.load(room, " ".repeat(600))), "IllegalArgumentException");
        Check.same("the greatest offset", room.errorOffset(), 600);
        Rooms.load(room, "room 0 0 0");
        Check.same("no error", room.errorOffset(), -1);
    }
}
