/** Promises 36 and 37: forecasts, which are what happens later and which alter nothing. */
public final class ForecastTest {
    private static final String TEXT = "room 100 20 5;hair 20;hair 3;bulb 30;bulb 0;hair 1;minutes 7";

    public static void main(String[] args) {
        likeWhatHappens();
        beyondTheLastMinute();
        still();
        alterNothing();
        wrongArguments();
        Check.finish("ForecastTest");
    }

    private static void likeWhatHappens() {
        for (int minutes : new int[] {0, 1, 2, 3, 4, 9, 10, 29, 30, 31, 55, 98, 99, 100, 101, 198}) {
            HygrometerRoom now = prepared();
            HygrometerRoom later = prepared();
            for (int left = minutes; left > 0; left -= Math.min(99, left)) {
                later.advance(Math.min(99, left));
            }
            for (int i = 0; i < now.instrumentCount(); i++) {
                Check.same("36 " + i + " after " + minutes, now.readingAfter(i, minutes), later.readingOf(i));
            }
        }
        HygrometerRoom room = prepared();
        Check.same("36 200", room.readingAfter(0, 200), 6);
        Check.same("36 190", room.readingAfter(0, 190), 7);
        Check.same("36 182", room.readingAfter(0, 182), 7);
        Check.same("36 183", room.readingAfter(0, 183), 7);
    }

    private static HygrometerRoom prepared() {
        HygrometerRoom room = Rooms.of(TEXT);
        room.setHumidity(10);
        room.putInBox(1, 1);
        return room;
    }

    private static void beyondTheLastMinute() {
        HygrometerRoom room = Rooms.of("room 100 20 0;hair 20;bulb 60");
        for (int calls = 1; calls <= 101; calls++) {
            room.advance(99);
        }
        room.tighten(0);
        room.moisten(1);
        room.setHumidity(0);
        Check.same("6 last minute", room.minute(), 9999);
        Check.same("36 the next minute makes slack", room.readingAfter(0, 1), 98);
        Check.same("36 four tens more", room.readingAfter(0, 41), 17);
        Check.same("36 water", room.readingAfter(1, 59), 0);
        Check.same("36 no water", room.readingAfter(1, 60), 100);
        Check.same("37 hair", room.minutesUntilStill(0), 50);
        Check.same("37 bulb", room.minutesUntilStill(1), 60);
        Check.same("6 still the last minute", room.minute(), 9999);
    }

    private static void still() {
        HygrometerRoom room = prepared();
        int[] due = {45, 9, 23, 0, 5};
        for (int i = 0; i < due.length; i++) {
            Check.same("37 " + i, room.minutesUntilStill(i), due[i]);
        }
        room.advance(44);
        Check.same("37 one more", room.minutesUntilStill(0), 1);
        Check.same("37 settled", room.minutesUntilStill(1), 0);
        Check.same("37 dry", room.minutesUntilStill(2), 0);
        room.moisten(2);
        Check.same("37 moistened", room.minutesUntilStill(2), 60);
        HygrometerRoom bare = Rooms.of("room 10 20 0;hair 1;tighten 0");
        Check.same("37 settled without hairs", bare.minutesUntilStill(0), 0);
        bare.setHumidity(11);
        Check.same("37 never", bare.minutesUntilStill(0), -1);
        Check.same("36 never", bare.readingAfter(0, 9), 10);
    }

    private static void alterNothing() {
        HygrometerRoom room = prepared();
        String before = Rooms.picture(room);
        for (int i = 0; i < 5; i++) {
            room.readingAfter(i, 200);
            room.minutesUntilStill(i);
        }
        Check.same("36 and 37 alter nothing", Rooms.picture(room), before);
        room.undo();
        Check.same("36 and 37 are no changes", room.undo(), 0);
    }

    private static void wrongArguments() {
        for (int number : new int[] {-1, 5, 6, Integer.MIN_VALUE, Integer.MAX_VALUE}) {
            HygrometerRoom room = prepared();
            Class<IndexOutOfBoundsException> due = IndexOutOfBoundsException.class;
            Check.refuses("36 of " + number, due, room, () -> room.readingAfter(number, 0));
            Check.refuses("37 of " + number, due, room, () -> room.minutesUntilStill(number));
            Check.refuses("36 both wrong", due, room, () -> room.readingAfter(number, 201));
        }
        for (int minutes : new int[] {-1, 201, Integer.MIN_VALUE, Integer.MAX_VALUE}) {
            HygrometerRoom room = prepared();
            Check.refuses("36 after " + minutes, IllegalArgumentException.class, room,
                    () -> room.readingAfter(0, minutes));
        }
    }
}
