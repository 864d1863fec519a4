/** Promises 3 to 5: the grammar of a description, what its lines do, and each kind of error. */
public final class DescriptionTest {
    private static final String HEAD = "room 0 0 0;";

    public static void main(String[] args) {
        goodTexts();
        linesDoWhatTheMethodsDo();
        syntaxOfTheHead();
        syntaxOfLines();
        joinedTokens();
        foreignBytes();
        ranges();
        wrongKinds();
        tooMany();
        refused();
        firstErrorOnly();
        Check.finish("DescriptionTest");
    }

    private static void good(String text, int count) {
        HygrometerRoom room = Rooms.of(text);
        Check.same("3 instruments of " + text, room.instrumentCount(), count);
        Check.same("4 no error in " + text, room.errorKind(), 0);
        Check.same("5 no offset in " + text, room.errorOffset(), -1);
    }

    private static void bad(String text, int kind, int offset) {
        HygrometerRoom room = new HygrometerRoom();
        String before = Rooms.state(room);
        Rooms.append(room, text);
        Check.fails("3 " + text, IllegalArgumentException.class, () -> room.load(text.length()));
        Check.same("4 kind of " + text, room.errorKind(), kind);
        Check.same("5 offset of " + text, room.errorOffset(), offset);
        Check.same("3 state after " + text, Rooms.state(room), before);
    }

    private static void goodTexts() {
        good("room 0 0 0", 0);
        good("room 100 40 5", 0);
        good("\n \nroom\n1 \n2\n\n3 \n", 0);
        good("room 001 02 003;hair 020;bulb 000", 2);
        good("room 0 0 0;hair 1;hair 20;bulb 0;bulb 60;box 1 3;box 0 0;out 1", 4);
        good("room 0 0 0 ; hair 1 ; humidity 100 ; minutes 99", 1);
        good("room 0 0 0;humidity 0;minutes 1;humidity 100", 0);
        good(Rooms.FIRST_TEXT, 4);
    }

    private static void linesDoWhatTheMethodsDo() {
        Check.same("3 begins", Rooms.state(Rooms.of("room 12 34 5")),
                "minute 0 humidity 12 temperature 34 skill 5 stock 0 difference 0");
        Check.same("3 minutes, humidity, hair", Rooms.state(Rooms.of("room 12 34 5;minutes 60;humidity 7;hair 3")),
                "minute 60 humidity 7 temperature 34 skill 5 stock 5 difference 0"
                        + "; hair 3 broken 0 wetness 7 slack 0 zero 0 box -1");
        Check.same("3 box and out", Rooms.state(Rooms.of("room 5 0 0;bulb 9;hair 9;box 0 3;box 1 1;out 0;minutes 2")),
                "minute 2 humidity 5 temperature 0 skill 0 stock 0 difference 0"
                        + "; bulb 7 zero 0 box -1; hair 9 broken 0 wetness 11 slack 0 zero 0 box 1");
        Check.same("3 out and box again", Rooms.of(HEAD + "bulb 9;box 0 3;out 0;box 0 0").boxOf(0), 0);
        Check.same("3 tighten breaks a hair", Rooms.instrument(Rooms.of("room 19 0 0;hair 2;minutes 20;tighten 0"), 0),
                "hair 1 broken 1 wetness 19 slack 0 zero 0 box -1");
        Check.same("3 tighten breaks none", Rooms.instrument(Rooms.of("room 20 0 0;hair 2;minutes 20;tighten 0"), 0),
                "hair 2 broken 0 wetness 20 slack 0 zero 0 box -1");
        Check.same("3 no tighten", Rooms.of("room 20 0 0;hair 2;minutes 20").slackOf(0), 2);
        Check.same("3 moisten", Rooms.of(HEAD + "bulb 0;moisten 0").waterOf(0), 60);
        Check.same("3 a text is no change", throwsOnUndo(Rooms.of(HEAD + "minutes 3")), true);
    }

    private static boolean throwsOnUndo(HygrometerRoom room) {
        try {
            room.undo();
            return false;
        } catch (IllegalStateException nothing) {
            return true;
        }
    }

    private static void syntaxOfTheHead() {
        bad("", 1, 0);
        bad("  \n", 1, 3);
        bad(" roo", 1, 1);
        bad("rooms 1 2 3", 1, 0);
        bad("roomz 1 2 3", 1, 0);
        bad("rooma 1 2 3", 1, 0);
        bad("zoom 1 2 3", 1, 0);
        bad("hair 1", 1, 0);
        bad("7", 1, 0);
        bad(";", 1, 0);
        bad("room", 1, 4);
        bad("room ", 1, 5);
        bad("room ;", 1, 5);
        bad("room room", 1, 5);
        bad("room 1", 1, 6);
        bad("room 1 2", 1, 8);
        bad("room 1 2 \n ", 1, 11);
        bad("room 1 2;", 1, 8);
        bad("room 1 2 3 4", 1, 11);
        bad("room 1 2 3 room", 1, 11);
        bad("room 1 2 3 hair 1", 1, 11);
        bad("room 1000 2 3", 1, 5);
        bad("room 0001 2 3", 1, 5);
        bad("room 1 2 99999999999999999999", 1, 9);
    }

    private static void syntaxOfLines() {
        bad(HEAD, 1, 11);
        bad(HEAD + " ", 1, 12);
        bad(HEAD + ";", 1, 11);
        bad(HEAD + "7", 1, 11);
        bad(HEAD + "room 0 0 0", 1, 11);
        bad(HEAD + "hairs 1", 1, 11);
        bad(HEAD + "hai 1", 1, 11);
        bad(HEAD + "xair 1", 1, 11);
        bad(HEAD + "minute 1", 1, 11);
        bad(HEAD + "hair", 1, 15);
        bad(HEAD + "hair;", 1, 15);
        bad(HEAD + "hair 1 1", 1, 18);
        bad(HEAD + "hair 1;", 1, 18);
        bad(HEAD + "bulb bulb", 1, 16);
        bad(HEAD + "hair 0001", 1, 16);
        bad(HEAD + "hair 1;box", 1, 21);
        bad(HEAD + "hair 1;box 0", 1, 23);
        bad(HEAD + "hair 1;box 0;", 1, 23);
        bad(HEAD + "hair 1;box 0 1 2", 1, 26);
        bad(HEAD + "hair 1;box 0 0000", 1, 24);
        bad(HEAD + "hair 1;box 0000 0", 1, 22);
        bad(HEAD + "hair 1;out", 1, 21);
        bad(HEAD + "hair 1;tighten x", 1, 26);
        bad(HEAD + "hair 1;moisten ;", 1, 26);
        bad(HEAD + "humidity 1 1", 1, 22);
        bad(HEAD + "minutes hair", 1, 19);
    }

    private static void joinedTokens() {
        bad("room60 1 2", 1, 4);
        bad("room 60x 1 2", 1, 7);
        bad("room 1 2 3hair", 1, 10);
        bad(HEAD + "hair1", 1, 15);
        bad(HEAD + "hair 1x", 1, 17);
        bad(HEAD + "hair21", 1, 15);
        bad(HEAD + "hair 1;box0 0", 1, 21);
        bad(HEAD + "humidity 1;humidity 1humidity", 1, 32);
        good("room\n1\n2\n3;\nhair\n1", 1);
    }

    private static void foreignBytes() {
        for (int sign = 0; sign < 256; sign++) {
            boolean ours = sign >= 'a' && sign <= 'z' || sign >= '0' && sign <= '9' || sign == ';'
                    || sign == ' ' || sign == '\n';
            if (!ours) {
                bad((char) sign + "room 1 2 3", 1, 0);
                bad("room" + (char) sign + "1 2 3", 1, 4);
                bad("room 1 2 3" + (char) sign, 1, 10);
            }
        }
        bad("Room 1 2 3", 1, 0);
        bad("roOm 1 2 3", 1, 0);
        bad("room -1 2 3", 1, 5);
    }

    private static void ranges() {
        bad("room 101 0 0", 2, 5);
        bad("room 0 41 0", 2, 7);
        bad("room 0 0 6", 2, 9);
        bad(HEAD + "hair 0", 2, 16);
        bad(HEAD + "hair 21", 2, 16);
        bad(HEAD + "bulb 61", 2, 16);
        bad(HEAD + "humidity 101", 2, 20);
        bad(HEAD + "minutes 0", 2, 19);
        bad(HEAD + "minutes 100", 2, 19);
        bad(HEAD + "box 0 0", 2, 15);
        bad(HEAD + "hair 1;box 1 0", 2, 22);
        bad(HEAD + "hair 1;box 0 4", 2, 24);
        bad(HEAD + "hair 1;out 1", 2, 22);
        bad(HEAD + "hair 1;tighten 1", 2, 26);
        bad(HEAD + "bulb 1;moisten 1", 2, 26);
        bad(HEAD + "bulb 1;moisten 999", 2, 26);
    }

    private static void wrongKinds() {
        bad(HEAD + "bulb 1;tighten 0", 3, 26);
        bad(HEAD + "hair 1;moisten 0", 3, 26);
    }

    private static void tooMany() {
        String six = HEAD + "hair 1;bulb 1;hair 1;bulb 1;hair 1;bulb 1;";
        bad(six + "hair 1", 4, 53);
        bad(six + " bulb 99", 4, 54);
        bad(six + "hair", 4, 53);
        bad(six + "hairs", 1, 53);
        good(six + "minutes 1", 6);
    }

    private static void refused() {
        bad(HEAD + "hair 1;box 0 0;box 0 0", 5, 30);
        bad(HEAD + "hair 1;box 0 0;box 0 9", 5, 30);
        bad(HEAD + "hair 1;box 0 0;box 0", 5, 30);
        bad(HEAD + "hair 1;out 0", 5, 22);
        bad(HEAD + "hair 1;out 0x", 5, 22);
        bad(HEAD + "hair 1;box 0 0;out 0;out 0", 5, 36);
        bad(HEAD + "hair 1;tighten 0;tighten 0", 5, 36);
        bad(HEAD + "hair 1;tighten 0;tighten 1", 2, 36);
    }

    private static void firstErrorOnly() {
        bad("room 101 41 #", 2, 5);
        bad("room 1 2 3 #; hair 0", 1, 11);
        bad(HEAD + "hair 0;hair", 2, 16);
        bad(HEAD + "bulb 1;tighten 0;#", 3, 26);
    }
}
