import java.nio.charset.StandardCharsets;
import java.util.Arrays;
import java.util.function.IntSupplier;

/** Makes rooms out of texts and tells all that the face shows of them. */
final class Rooms {
    static final String FIRST_TEXT =
            "room 60 20 2; hair 10; hair 4; bulb 30; bulb 3; humidity 50; minutes 3; box 1 2; minutes 2";

    private Rooms() {
    }

    static HygrometerRoom of(String text) {
        HygrometerRoom room = new HygrometerRoom();
        load(room, text);
        return room;
    }

    static int load(HygrometerRoom room, String text) {
        append(room, text);
        return room.load(text.length());
    }

    /** Appends a text, a character a byte, and fills the last 20 bytes with '#'. */
    static int append(HygrometerRoom room, String text) {
        byte[] bytes = text.getBytes(StandardCharsets.ISO_8859_1);
        int length = 0;
        for (int from = 0; from < bytes.length; from += 20) {
            byte[] part = new byte[20];
            Arrays.fill(part, (byte) '#');
            System.arraycopy(bytes, from, part, 0, Math.min(20, bytes.length - from));
            length = room.append(word(part, 0), word(part, 4), word(part, 8), word(part, 12), word(part, 16));
        }
        return length;
    }

    private static int word(byte[] bytes, int from) {
        int word = 0;
        for (int i = from; i < from + 4; i++) {
            word = word * 256 + (bytes[i] & 255);
        }
        return word;
    }

    /** The bytes of the output buffer, found by asking until there is none. */
    static String output(HygrometerRoom room) {
        StringBuilder output = new StringBuilder();
        try {
            while (output.length() < 1000) {
                output.append((char) room.outputByte(output.length()));
            }
        } catch (IndexOutOfBoundsException end) {
            return output.toString();
        }
        return output.toString();
    }

    static String picture(HygrometerRoom room) {
        StringBuilder all = new StringBuilder();
        all.append("error ").append(room.errorKind()).append(" at ").append(room.errorOffset());
        all.append(", output ").append(output(room)).append(", ").append(state(room));
        return all.toString();
    }

    /** Lets any number of minutes pass and returns the number of hairs that were brought. */
    static int pass(HygrometerRoom room, int minutes) {
        int brought = 0;
        for (int left = minutes; left > 0; left -= Math.min(99, left)) {
            brought += room.advance(Math.min(99, left));
        }
        return brought;
    }

    /** A hair hygrometer and a wet bulb, and something in every part that a room has beside them. */
    static HygrometerRoom busy() {
        HygrometerRoom room = of("room 50 20 5;hair 10;minutes 60;bulb 30;box 1 2");
        append(room, "room 1 2 6");
        answer(() -> room.load(10));
        room.save(0);
        for (int humidity = 40; humidity <= 51; humidity++) {
            room.setHumidity(humidity);
        }
        room.advance(3);
        room.save(1);
        room.writeReadings();
        append(room, "room 7 8 3;bulb 9;minutes 5");
        return room;
    }

    /** All that a room holds, found by calls that use it up. */
    static String whole(HygrometerRoom room) {
        StringBuilder all = new StringBuilder(picture(room));
        String left = "";
        for (int undone = 0; undone < 11 && !left.endsWith("Exception"); undone++) {
            left = answer(room::undo);
            all.append("\nundo ").append(left).append(", ").append(state(room));
        }
        for (int slot = 0; slot < 2; slot++) {
            int number = slot;
            all.append("\nrestore ").append(answer(() -> room.restore(number))).append(", ").append(state(room));
        }
        return all.append(input(room)).toString();
    }

    private static String input(HygrometerRoom room) {
        String length = answer(() -> room.append(0, 0, 0, 0, 0));
        int before = length.matches("\\d+") ? Integer.parseInt(length) - 20 : 600;
        return "\ninput " + before + ", load " + answer(() -> room.load(before)) + ", " + picture(room);
    }

    /** What a call answers, be it a number or an exception. */
    static String answer(IntSupplier call) {
        try {
            return String.valueOf(call.getAsInt());
        } catch (RuntimeException e) {
            return e.getClass().getSimpleName();
        }
    }

    /** What undo() and restore() bring back. */
    static String state(HygrometerRoom room) {
        StringBuilder all = new StringBuilder();
        all.append("minute ").append(room.minute()).append(" humidity ").append(room.humidity());
        all.append(" temperature ").append(room.temperature()).append(" skill ").append(room.skill());
        all.append(" stock ").append(room.hairStock()).append(" difference ").append(room.hairDifference());
        for (int i = 0; i < room.instrumentCount(); i++) {
            all.append("; ").append(instrument(room, i));
        }
        return all.toString();
    }

    /** All the numbers that an instrument has of its own. */
    static String instrument(HygrometerRoom room, int i) {
        String own = room.isHair(i)
                ? "hair " + room.hairsOf(i) + " broken " + room.brokenOf(i) + " wetness " + room.wetnessOf(i)
                        + " slack " + room.slackOf(i)
                : "bulb " + room.waterOf(i);
        return own + " zero " + room.zeroOf(i) + " box " + room.boxOf(i);
    }
}
