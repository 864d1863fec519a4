/** Promises 38 to 40: the hairs, the mean reading and the usable share. */
public final class MeasureTest {
    public static void main(String[] args) {
        hairs();
        HygrometerRoom empty = Rooms.of("room 50 20 5");
        Check.same("39 without instruments", empty.meanReading(), 0.0);
        Check.same("40 without instruments", empty.usableShare(), 0.0f);
        HygrometerRoom first = new HygrometerRoom();
        Check.same("39 first", first.meanReading(), 65.5);
        Check.same("40 first", first.usableShare(), 0.5f);
        HygrometerRoom three = Rooms.of("room 50 20 0;hair 5;bulb 0;bulb 3");
        Check.same("39 a third", three.meanReading(), 200.0 / 3.0);
        Check.same("40 two thirds", three.usableShare(), 2.0f / 3.0f);
        three.putInBox(0, 0);
        Check.same("39 a boxed one counts", three.meanReading(), 200.0 / 3.0);
        Check.same("40 a third", three.usableShare(), 1.0f / 3.0f);
        three.putInBox(2, 0);
        Check.same("39 another", three.meanReading(), 184.0 / 3.0);
        Check.same("40 none usable", three.usableShare(), 0.0f);
        Check.same("40 all usable", Rooms.of("room 50 20 0;hair 5").usableShare(), 1.0f);
        Check.finish("MeasureTest");
    }

    private static void hairs() {
        HygrometerRoom room = Rooms.of("room 5 20 5;hair 5;hair 1;bulb 4;minutes 99;tighten 0");
        Check.same("38 after a text", room.hairDifference(), 0);
        room.tighten(1);
        Check.same("38 after a break", room.hairDifference(), 0);
        room.addHairs(1, 3);
        Check.same("38 after new hairs", room.hairDifference(), 0);
        room.save(0);
        for (int calls = 0; calls < 30; calls++) {
            room.advance(99);
            Check.same("38 after hairs brought", room.hairDifference(), 0);
        }
        Check.same("10 full stock", room.hairStock(), 99);
        room.addHairs(0, 10);
        room.restore(0);
        Check.same("38 after restore", room.hairDifference(), 0);
        room.undo();
        Check.same("38 after undo", room.hairDifference(), 0);
        Check.same("38 after load", Rooms.of("room 0 0 0").hairDifference(), 0);
    }
}
