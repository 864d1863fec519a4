/** Promises 6 to 11: the numbers of the room, and the fixed points. */
public final class RoomTest {
    public static void main(String[] args) {
        HygrometerRoom first = new HygrometerRoom();
        Check.same("6 minute", first.minute(), 5);
        Check.same("7 humidity", first.humidity(), 50);
        Check.same("8 temperature", first.temperature(), 20);
        Check.same("9 skill", first.skill(), 2);
        Check.same("10 stock", first.hairStock(), 0);
        least();
        greatest();
        fixedPoints();
        Check.finish("RoomTest");
    }

    private static void least() {
        HygrometerRoom room = Rooms.of("room 0 0 0");
        Check.same("6 least minute", room.minute(), 0);
        Check.same("7 least humidity", room.humidity(), 0);
        Check.same("8 least temperature", room.temperature(), 0);
        Check.same("9 least skill", room.skill(), 0);
        room.advance(99);
        Check.same("10 nothing brought without skill", room.hairStock(), 0);
    }

    private static void greatest() {
        HygrometerRoom room = Rooms.of("room 100 40 5");
        Check.same("7 greatest humidity", room.humidity(), 100);
        Check.same("8 greatest temperature", room.temperature(), 40);
        Check.same("9 greatest skill", room.skill(), 5);
        for (int calls = 1; calls <= 101; calls++) {
            room.advance(99);
            Check.same("6 minute", room.minute(), 99 * calls);
            Check.same("10 stock", room.hairStock(), Math.min(99, 99 * calls / 60 * 5));
        }
        Check.same("6 greatest minute", room.minute(), 9999);
        Check.same("10 greatest stock", room.hairStock(), 99);
    }

    private static void fixedPoints() {
        HygrometerRoom room = new HygrometerRoom();
        int[] due = {33, 43, 75, 97};
        for (int salt = 0; salt < 4; salt++) {
            Check.same("11 salt " + salt, room.fixedPoint(salt), due[salt]);
        }
        for (int salt : new int[] {-1, 4, Integer.MIN_VALUE, Integer.MAX_VALUE}) {
            HygrometerRoom other = new HygrometerRoom();
            Check.refuses("11 salt " + salt, IllegalArgumentException.class, other, () -> other.fixedPoint(salt));
        }
    }
}
