/** Promises 54 to 56: the output buffer. */
public final class OutputTest {
    private static final Class<IndexOutOfBoundsException> NO_INDEX = IndexOutOfBoundsException.class;

    public static void main(String[] args) {
        instruments();
        readings();
        bytes();
        refusals();
        Check.finish("OutputTest");
    }

    private static void written(HygrometerRoom room, int instrument, String due) {
        Check.same("54 length of " + due, room.writeInstrument(instrument), due.length());
        Check.same("54 output", Rooms.output(room), due);
    }

    private static void instruments() {
        HygrometerRoom room = new HygrometerRoom();
        written(room, 0, "h50*");
        written(room, 1, "h62s2");
        written(room, 2, "b50*");
        written(room, 3, "b100");
        room.putInBox(0, 3);
        room.putInBox(2, 0);
        room.putInBox(3, 1);
        written(room, 0, "h50s3");
        written(room, 2, "b34*s0");
        written(room, 3, "b100s1");
        room.moisten(3);
        written(room, 3, "b44*s1");
        HygrometerRoom low = Rooms.of("room 0 0 0;hair 5;hair 1;box 0 0;minutes 1;humidity 9");
        written(low, 0, "h5s0");
        written(low, 1, "h0");
        low.setHumidity(100);
        low.advance(9);
        written(low, 1, "h100*");
        written(Rooms.of("room 9 0 0;hair 5"), 0, "h9*");
        written(Rooms.of("room 10 0 0;hair 5"), 0, "h10*");
        written(Rooms.of("room 99 0 0;hair 5"), 0, "h99*");
    }

    private static void readings() {
        HygrometerRoom room = new HygrometerRoom();
        Check.same("55 length", room.writeReadings(), 12);
        Check.same("55 output", Rooms.output(room), "50 62 50 100");
        written(room, 0, "h50*");
        HygrometerRoom full = Rooms.of("room 0 0 0;bulb 0;bulb 0;bulb 0;bulb 0;bulb 0;bulb 0");
        Check.same("55 longest", full.writeReadings(), 23);
        Check.same("55 output", Rooms.output(full), "100 100 100 100 100 100");
        full.moisten(0);
        full.moisten(5);
        Check.same("55 length", full.writeReadings(), 19);
        Check.same("55 output", Rooms.output(full), "0 100 100 100 100 0");
        Rooms.load(full, "room 7 0 0;hair 1");
        Check.same("55 one", full.writeReadings(), 1);
        Check.same("55 output", Rooms.output(full), "7");
        Rooms.load(full, "room 7 0 0");
        Check.same("55 none", full.writeReadings(), 0);
        Check.same("55 output", Rooms.output(full), "");
    }

    private static void bytes() {
        HygrometerRoom room = new HygrometerRoom();
        Check.refuses("56 of nothing", NO_INDEX, room, () -> room.outputByte(0));
        room.writeInstrument(1);
        int[] due = {104, 54, 50, 115, 50};
        for (int i = 0; i < due.length; i++) {
            Check.same("56 byte " + i, room.outputByte(i), due[i]);
        }
        for (int index : new int[] {-1, 5, 6, 24, 600, Integer.MIN_VALUE, Integer.MAX_VALUE}) {
            HygrometerRoom other = new HygrometerRoom();
            other.writeReadings();
            other.writeInstrument(1);
            Check.refuses("56 byte " + index, NO_INDEX, other, () -> other.outputByte(index));
        }
        room.writeInstrument(2);
        Check.same("56 letter", room.outputByte(0), 98);
        Check.same("56 asterisk", room.outputByte(3), 42);
        room.writeReadings();
        Check.same("56 space", room.outputByte(2), 32);
    }

    private static void refusals() {
        for (int number : new int[] {-1, 4, 5, 6, Integer.MIN_VALUE, Integer.MAX_VALUE}) {
            HygrometerRoom room = new HygrometerRoom();
            room.writeReadings();
            Check.refuses("54 of " + number, NO_INDEX, room, () -> room.writeInstrument(number));
        }
        HygrometerRoom room = new HygrometerRoom();
        String before = Rooms.state(room);
        room.writeInstrument(0);
        room.writeReadings();
        Check.same("54 and 55 alter no state", Rooms.state(room), before);
        Check.fails("54 and 55 are no changes", IllegalStateException.class, room::undo);
    }
}
