/** Boundary cases of promises 54 to 56. */
final class OutputEdges {
    private static final Class<IndexOutOfBoundsException> NO_INDEX = IndexOutOfBoundsException.class;

    private OutputEdges() {
    }

    static void run() {
        Sentences.in(54);
        Sentences.hold("Writes an instrument to the output buffer and replaces its content: a letter h for a hair"
                + " hygrometer or b for a wet bulb; the reading; an asterisk (byte 42) if it is settled; and, if it"
                + " is in a box, a letter s and the number of the salt.", OutputEdges::instruments);
        Sentences.hold("Returns the length of the output.", OutputEdges::instrumentLengths);
        Sentences.in(55);
        Sentences.hold("Writes all readings to the output buffer and replaces its content: the readings of the"
                + " instruments by ascending numbers, separated by spaces (byte 32).", OutputEdges::readings);
        Sentences.hold("Returns the length of the output.", OutputEdges::readingLengths);
        Sentences.in(56);
        Sentences.hold("Returns a byte of the output buffer.", OutputEdges::lastOutput);
        Sentences.hold("`index`: the index, from 0", OutputEdges::firstAndLast);
        Sentences.hold("Returns the byte.", OutputEdges::allSigns);
        Sentences.hold("Throws `IndexOutOfBoundsException` if there is no such byte", OutputEdges::noByte);
    }

    private static void written(HygrometerRoom room, int instrument, String due) {
        room.writeInstrument(instrument);
        Check.same("output of " + instrument, Rooms.output(room), due);
    }

    private static void instruments() {
        HygrometerRoom room = Rooms.of("room 0 0 0;hair 20;bulb 0;bulb 60;hair 20;humidity 9");
        written(room, 0, "h0");
        written(room, 1, "b100");
        written(room, 2, "b10*");
        room.setHumidity(0);
        written(room, 0, "h0*");
        written(room, 2, "b0*");
        for (int salt = 0; salt < 4; salt++) {
            room.putInBox(0, salt);
            written(room, 0, "h0s" + salt);
            room.takeOut(0);
            room.putInBox(1, salt);
            written(room, 1, "b100s" + salt);
            room.takeOut(1);
        }
        for (int humidity : new int[] {1, 9, 10, 11, 99, 100}) {
            written(Rooms.of("room " + humidity + " 0 0;hair 1"), 0, "h" + humidity + "*");
        }
    }

    /** A hair hygrometer that reads 100 in box 3 where it is settled. */
    private static HygrometerRoom longest() {
        HygrometerRoom room = Rooms.of("room 97 0 0;hair 20;box 0 3;minutes 99;minutes 51");
        room.calibrate(0);
        room.tighten(0);
        return room;
    }

    private static void instrumentLengths() {
        HygrometerRoom room = longest();
        Check.same("the longest", room.writeInstrument(0), 7);
        Check.same("output", Rooms.output(room), "h100*s3");
        Rooms.load(room, "room 0 0 0;hair 1;humidity 1");
        Check.same("the shortest", room.writeInstrument(0), 2);
        Check.same("output", Rooms.output(room), "h0");
    }

    private static void readings() {
        HygrometerRoom room = Rooms.of("room 0 0 0;hair 1;humidity 9;hair 1;humidity 10;hair 1;humidity 99;hair 1;"
                + "humidity 100;hair 1;bulb 0");
        room.writeReadings();
        Check.same("in their order", Rooms.output(room), "0 9 10 99 100 100");
        room.putInBox(5, 0);
        room.moisten(5);
        room.writeReadings();
        Check.same("a boxed one too", Rooms.output(room), "0 9 10 99 100 40");
        Rooms.load(room, "room 8 0 0;hair 1");
        room.writeReadings();
        Check.same("one alone", Rooms.output(room), "8");
        Rooms.load(room, "room 8 0 0");
        room.writeReadings();
        Check.same("none", Rooms.output(room), "");
    }

    private static void readingLengths() {
        HygrometerRoom room = Rooms.of("room 0 0 0;bulb 0;bulb 0;bulb 0;bulb 0;bulb 0;bulb 0");
        Check.same("the longest", room.writeReadings(), 23);
        Check.same("output", Rooms.output(room), "100 100 100 100 100 100");
        Rooms.load(room, "room 8 0 0;hair 1");
        Check.same("the shortest", room.writeReadings(), 1);
        Rooms.load(room, "room 8 0 0");
        Check.same("none", room.writeReadings(), 0);
    }

    private static void lastOutput() {
        HygrometerRoom room = new HygrometerRoom();
        room.writeReadings();
        room.writeInstrument(3);
        Check.same("the instrument alone", Rooms.output(room), "b100");
        room.writeReadings();
        Check.same("the readings alone", Rooms.output(room), "50 62 50 100");
        Check.fails("a refused writing", NO_INDEX, () -> room.writeInstrument(4));
        Check.same("the readings still", Rooms.output(room), "50 62 50 100");
    }

    private static void firstAndLast() {
        HygrometerRoom room = new HygrometerRoom();
        int length = room.writeReadings();
        Check.same("first", room.outputByte(0), (int) '5');
        Check.same("last", room.outputByte(length - 1), (int) '0');
        Check.same("first again", room.outputByte(0), (int) '5');
    }

    private static void allSigns() {
        HygrometerRoom room = longest();
        int[] due = {104, 49, 48, 48, 42, 115, 51};
        int length = room.writeInstrument(0);
        for (int i = 0; i < length; i++) {
            Check.same("byte " + i, room.outputByte(i), due[i]);
        }
        Rooms.load(room, "room 36 40 0;bulb 1;hair 1");
        room.writeInstrument(0);
        Check.same("letter of a bulb", room.outputByte(0), 98);
        room.writeReadings();
        Check.same("space", room.outputByte(2), 32);
        for (int digit = 0; digit <= 9; digit++) {
            Rooms.load(room, "room " + digit + " 0 0;hair 1");
            room.writeReadings();
            Check.same("digit", room.outputByte(0), 48 + digit);
        }
    }

    private static void noByte() {
        for (int index : new int[] {-1, 0, 23, 24, 600, Integer.MIN_VALUE, Integer.MAX_VALUE}) {
            Check.refused("no output, byte " + index, NO_INDEX, HygrometerRoom::new, room -> room.outputByte(index));
        }
        Check.same("the output of a busy room", Rooms.output(Rooms.busy()).length(), 5);
        for (int index : new int[] {-1, 5, 6, 23, 24, 256, Integer.MIN_VALUE, Integer.MAX_VALUE}) {
            Check.refused("byte " + index + " of 5", NO_INDEX, Rooms::busy, room -> room.outputByte(index));
        }
        HygrometerRoom full = Rooms.of("room 0 0 0;bulb 0;bulb 0;bulb 0;bulb 0;bulb 0;bulb 0");
        full.writeReadings();
        Check.same("the last of the longest", full.outputByte(22), 48);
        Check.refuses("beyond the longest", NO_INDEX, full, () -> full.outputByte(23));
        full.moisten(0);
        full.writeInstrument(0);
        Check.refuses("beyond what replaced it", NO_INDEX, full, () -> full.outputByte(3));
        Rooms.load(full, "room 0 0 0");
        full.writeReadings();
        Check.refuses("the first of nothing", NO_INDEX, full, () -> full.outputByte(0));
    }
}
