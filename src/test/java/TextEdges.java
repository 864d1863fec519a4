/** Boundary cases of "Description text". */
final class TextEdges {
    private static final String HEAD = "room 0 0 0;";
    private static final String SIX = HEAD + "hair 1;bulb 1;hair 1;bulb 1;hair 1;bulb 1;";

    private TextEdges() {
    }

    static void run() {
        grammar();
        meaning();
        tokens();
        offsets();
        kinds();
    }

    private static void grammar() {
        Sentences.in("Description text");
        Sentences.hold("description = \"room\" number number number { \";\" line }", TextEdges::description);
        Sentences.hold("line = \"hair\" number | \"bulb\" number | \"box\" number number | \"out\" number |"
                + " \"tighten\" number | \"moisten\" number", TextEdges::instrumentLines);
        Sentences.hold("| \"humidity\" number | \"minutes\" number", TextEdges::roomLines);
        Sentences.hold("Braces enclose a part that may occur any number of times, and a bar separates alternatives.",
                TextEdges::anyNumberOfLines);
    }

    private static void meaning() {
        Sentences.in("Description text");
        Sentences.hold("The numbers after \"room\" are the humidity, the temperature and the skill of the apprentice"
                + " (0 to 5).", TextEdges::headNumbers);
        Sentences.hold("The stock of hairs is 0 at first.", TextEdges::firstStock);
        Sentences.hold("\"hair\" adds a hair hygrometer with its hairs, and \"bulb\" a wet bulb with its water (0 to"
                + " 60).", TextEdges::added);
        Sentences.hold("\"box\" puts an instrument (the first number) into the box of a salt (the second number),"
                + " \"out\" takes an instrument out of its box, \"tighten\" and \"moisten\" tell an instrument,"
                + " \"humidity\" sets the humidity of the room, and \"minutes\" lets 1 to 99 minutes pass.",
                TextEdges::lineNumbers);
        Sentences.hold("The lines are executed in their order, with the effects of the methods putInBox, takeOut,"
                + " tighten, moisten, setHumidity and advance.", TextEdges::likeTheMethods);
    }

    private static void tokens() {
        Sentences.in("Description text");
        Sentences.hold("A token is a word (a run of letters a to z), a number (a run of digits) or a semicolon, and"
                + " each token is as long as possible.", TextEdges::signs);
        Sentences.hold("Spaces (byte 32) and line feeds (byte 10) may stand between tokens and at both ends of the"
                + " text.", TextEdges::blanks);
        Sentences.hold("A word or number that directly follows a word or number, without a space or line feed between"
                + " them, is a syntax error.", TextEdges::joined);
    }

    private static void offsets() {
        Sentences.in("Description text");
        Sentences.hold("The parser reports the error with the smallest offset.", TextEdges::smallestOffset);
        Sentences.hold("The offset of an error is the offset of the first byte of its token.", TextEdges::firstByte);
        Sentences.hold("If the text ends too early, the offset is the length of the text.", TextEdges::endsTooEarly);
    }

    private static void kinds() {
        Sentences.in("Description text");
        Sentences.hold("If several kinds of error apply to one token, the parser reports the smallest kind.",
                TextEdges::smallestKind);
        Sentences.hold("Kind 1, syntax error: a token that the grammar does not allow at this place, a number with"
                + " more than 3 digits, a byte that starts no token, or the end of the text.", TextEdges::kindOne);
        Sentences.hold("Kind 2, out of range: a number outside its range, or the number of an instrument that does not"
                + " exist.", TextEdges::kindTwo);
        Sentences.hold("The number after \"minutes\" is also out of range if the minute number would exceed 9999.",
                TextEdges::lateMinutes);
        Sentences.hold("Kind 3, wrong kind: the number of a wet bulb after \"tighten\", or of a hair hygrometer after"
                + " \"moisten\".", TextEdges::kindThree);
        Sentences.hold("Kind 4, too many: the word of a 7th instrument.", TextEdges::kindFour);
        Sentences.hold("Kind 5, refused: the instrument after \"box\" if it is in a box, the instrument after \"out\""
                + " if it is outside, or the instrument after \"tighten\" if it has no hairs.", TextEdges::kindFive);
    }

    /** The text has this state, and no error. */
    static void good(String text, String due) {
        HygrometerRoom room = Rooms.of(text);
        Check.same("state of " + text, Rooms.state(room), due);
        Check.same("no error in " + text, room.errorKind(), 0);
        Check.same("no offset in " + text, room.errorOffset(), -1);
    }

    /** The text has this error, and nothing of it is left in the state. */
    static void bad(String text, int kind, int offset) {
        HygrometerRoom room = new HygrometerRoom();
        Rooms.append(room, text);
        Check.fails(text, IllegalArgumentException.class, () -> room.load(text.length()));
        Check.same("kind of " + text, room.errorKind(), kind);
        Check.same("offset of " + text, room.errorOffset(), offset);
        Check.same("state after " + text, Rooms.state(room), Rooms.state(new HygrometerRoom()));
    }

    private static String head(int minute, int humidity, int temperature, int skill, int stock) {
        return "minute " + minute + " humidity " + humidity + " temperature " + temperature + " skill " + skill
                + " stock " + stock + " difference 0";
    }

    private static void description() {
        good("room 0 0 0", head(0, 0, 0, 0, 0));
        good("room 9 8 5;humidity 7", head(0, 7, 8, 5, 0));
        bad("", 1, 0);
        bad("room", 1, 4);
        bad("room 9", 1, 6);
        bad("room 9 8", 1, 8);
        bad("room 9 8 5 4", 1, 11);
        bad("9 8 5", 1, 0);
        bad("room 9 8;5", 1, 8);
        bad("room;9 8 5", 1, 4);
        bad(";room 9 8 5", 1, 0);
        bad("room 9 8 5;", 1, 11);
        bad("room 9 8 5;;", 1, 11);
        bad("room 9 8 5 humidity 7", 1, 11);
        bad("room 9 8 5;humidity 7;", 1, 22);
        bad("room 9 8 5;room 9 8 5", 1, 11);
        for (String word : new String[] {"roo", "rooms", "oom", "xoom", "rxom", "roox", "rooz"}) {
            bad(word + " 9 8 5", 1, 0);
        }
    }

    /** Each line takes just so many numbers: the two lines have errors of one number less and one more. */
    private static void line(String before, String line, String due) {
        String text = before + line;
        good(text, due);
        bad(text.substring(0, text.lastIndexOf(' ')), 1, text.lastIndexOf(' '));
        bad(text + " 0", 1, text.length() + 1);
        bad(text.substring(0, text.lastIndexOf(' ')) + ";out 0", 1, text.lastIndexOf(' '));
    }

    private static void instrumentLines() {
        String hair = "; hair 1 broken 0 wetness 0 slack 0 zero 0 box ";
        line(HEAD, "hair 1", head(0, 0, 0, 0, 0) + hair + -1);
        line(HEAD, "bulb 1", head(0, 0, 0, 0, 0) + "; bulb 1 zero 0 box -1");
        line(HEAD + "hair 1;", "box 0 2", head(0, 0, 0, 0, 0) + hair + 2);
        line(HEAD + "hair 1;box 0 2;", "out 0", head(0, 0, 0, 0, 0) + hair + -1);
        line(HEAD + "hair 1;", "tighten 0",
                head(0, 0, 0, 0, 0) + "; hair 0 broken 1 wetness 0 slack 0 zero 0 box -1");
        line(HEAD + "bulb 1;", "moisten 0", head(0, 0, 0, 0, 0) + "; bulb 60 zero 0 box -1");
        bad(HEAD + "hair 1;box", 1, 21);
        bad(HEAD + "hair 1;box 0", 1, 23);
        for (String word : new String[] {"hai", "hairs", "bul", "bulbs", "bo", "boxs", "ou", "outs", "tighte",
            "moiste", "restore", "calibrate", "hairbulb", "xair", "xulb", "xox", "xut", "xighten", "xoisten",
            "z"}) {
            bad(HEAD + word + " 1", 1, 11);
        }
    }

    private static void roomLines() {
        line(HEAD, "humidity 7", head(0, 7, 0, 0, 0));
        line(HEAD, "minutes 7", head(7, 0, 0, 0, 0));
        for (String word : new String[] {"humidit", "humiditys", "minute", "minutess", "temperature", "skill", "xumidity",
            "xinutes"}) {
            bad(HEAD + word + " 1", 1, 11);
        }
    }

    private static void anyNumberOfLines() {
        good("room 0 0 0", head(0, 0, 0, 0, 0));
        good("room 0 0 0;minutes 9", head(9, 0, 0, 0, 0));
        // 10 bytes of a head, 58 lines of 10 bytes, and 10 bytes left for the last line.
        String full = "room 0 0 0" + ";minutes 9".repeat(59);
        Check.same("length of all lines", full.length(), 600);
        good(full, head(531, 0, 0, 0, 0));
        String moves = "room 0 0 0;bulb 0;box 0 0" + ";out 0;box 0 3".repeat(41);
        Check.same("length of the moves", moves.length(), 599);
        good(moves, head(0, 0, 0, 0, 0) + "; bulb 0 zero 0 box 3");
    }

    private static void headNumbers() {
        good("room 0 0 0", head(0, 0, 0, 0, 0));
        good("room 1 2 3", head(0, 1, 2, 3, 0));
        good("room 100 40 5", head(0, 100, 40, 5, 0));
        bad("room 101 0 0", 2, 5);
        bad("room 0 41 0", 2, 7);
        bad("room 0 0 6", 2, 9);
        bad("room 999 999 999", 2, 5);
    }

    private static void firstStock() {
        good("room 0 0 5", head(0, 0, 0, 5, 0));
        good("room 0 0 5;minutes 59", head(59, 0, 0, 5, 0));
        good("room 0 0 5;minutes 60", head(60, 0, 0, 5, 5));
        HygrometerRoom room = Rooms.of("room 0 0 5;minutes 60");
        Rooms.load(room, "room 0 0 5");
        Check.same("the old stock is gone", room.hairStock(), 0);
    }

    private static void added() {
        good(HEAD + "hair 1;bulb 0;hair 20;bulb 60", head(0, 0, 0, 0, 0)
                + "; hair 1 broken 0 wetness 0 slack 0 zero 0 box -1; bulb 0 zero 0 box -1"
                + "; hair 20 broken 0 wetness 0 slack 0 zero 0 box -1; bulb 60 zero 0 box -1");
        bad(HEAD + "hair 0", 2, 16);
        bad(HEAD + "hair 21", 2, 16);
        bad(HEAD + "bulb 61", 2, 16);
        bad(HEAD + "bulb 999", 2, 16);
    }

    private static void lineNumbers() {
        for (int salt = 0; salt < 4; salt++) {
            good(HEAD + "bulb 1;bulb 2;box 1 " + salt,
                    head(0, 0, 0, 0, 0) + "; bulb 1 zero 0 box -1; bulb 2 zero 0 box " + salt);
        }
        bad(HEAD + "bulb 1;bulb 2;box 1 4", 2, 31);
        bad(HEAD + "bulb 1;bulb 2;box 2 1", 2, 29);
        good(HEAD + "humidity 0", head(0, 0, 0, 0, 0));
        good(HEAD + "humidity 100", head(0, 100, 0, 0, 0));
        bad(HEAD + "humidity 101", 2, 20);
        good(HEAD + "minutes 1", head(1, 0, 0, 0, 0));
        good(HEAD + "minutes 99", head(99, 0, 0, 0, 0));
        bad(HEAD + "minutes 0", 2, 19);
        bad(HEAD + "minutes 100", 2, 19);
    }

    /** The same steps, by lines and by methods; in another order they would end otherwise. */
    private static void likeTheMethods() {
        HygrometerRoom lines = Rooms.of("room 19 7 3;hair 2;bulb 9;minutes 9;box 0 3;minutes 51;tighten 0;out 0;"
                + "humidity 0;minutes 8;tighten 0;moisten 1;box 1 1;minutes 1");
        HygrometerRoom calls = Rooms.of("room 19 7 3;hair 2;bulb 9");
        calls.advance(9);
        calls.putInBox(0, 3);
        calls.advance(51);
        calls.tighten(0);
        calls.takeOut(0);
        calls.setHumidity(0);
        calls.advance(8);
        calls.tighten(0);
        calls.moisten(1);
        calls.putInBox(1, 1);
        calls.advance(1);
        Check.same("by lines", Rooms.state(lines), Rooms.state(calls));
        Check.same("the state", Rooms.state(lines), head(69, 0, 7, 3, 3)
                + "; hair 1 broken 1 wetness 0 slack 0 zero 0 box -1; bulb 59 zero 0 box 1");
        good("room 5 0 0;hair 1;humidity 9;hair 1", head(0, 9, 0, 0, 0)
                + "; hair 1 broken 0 wetness 5 slack 0 zero 0 box -1; hair 1 broken 0 wetness 9 slack 0 zero 0 box -1");
    }

    /** The bytes just outside the letters, the digits, the semicolon and the blanks. */
    private static void signs() {
        for (char sign : new char[] {0, 9, 11, 13, 31, 33, '/', ':', '<', '@', 'A', 'Z', '`', '{', 127, 128, 160, 187,
            241, 255}) {
            bad(sign + "room 0 0 0", 1, 0);
            bad("room" + sign + " 0 0 0", 1, 4);
            bad("room 0" + sign + " 0 0", 1, 6);
            bad("room 0 0 0;" + sign + "hair 1", 1, 11);
            bad("room 0 0 0" + sign, 1, 10);
        }
        good("room 0 9 0", head(0, 0, 9, 0, 0));
        good("room 90 0 0;humidity 100;minutes 09", head(9, 100, 0, 0, 0));
        bad("room 12 34 56", 2, 11);
        bad("az 1 2 3", 1, 0);
        bad("rooma 1 2 3", 1, 0);
        bad("roomz 1 2 3", 1, 0);
        good("room 0 0 0;hair 1;bulb 2", head(0, 0, 0, 0, 0)
                + "; hair 1 broken 0 wetness 0 slack 0 zero 0 box -1; bulb 2 zero 0 box -1");
    }

    private static void blanks() {
        good("room 1 2 3;hair 4", head(0, 1, 2, 3, 0) + "; hair 4 broken 0 wetness 1 slack 0 zero 0 box -1");
        good(" room 1 2 3 ", head(0, 1, 2, 3, 0));
        good("\nroom\n1\n2\n3\n", head(0, 1, 2, 3, 0));
        good(" \n \nroom  1 \n 2\n 3 \n\n;\n \nminutes\n\n4\n ", head(4, 1, 2, 3, 0));
        bad("ro om 1 2 3", 1, 0);
        bad("room 1 2 3;hu midity 4", 1, 11);
        good("room 1 2 3;humidity 1", head(0, 1, 2, 3, 0));
        bad("room 1 2 3;humidity 1 1", 1, 22);
        bad("room\t1 2 3", 1, 4);
        bad("room\r1 2 3", 1, 4);
    }

    private static void joined() {
        bad("room1 2 3", 1, 4);
        bad("1room 1 2 3", 1, 0);
        bad("room 1x 2 3", 1, 6);
        bad("room 1 2 3hair 1", 1, 10);
        bad(HEAD + "hair1", 1, 15);
        bad(HEAD + "hair 1bulb 1", 1, 17);
        bad(HEAD + "hair 1;box0 1", 1, 21);
        bad(HEAD + "hair 1;box 0x1", 1, 23);
        bad(HEAD + "minutes1", 1, 18);
        good(HEAD + "humidity 1;humidity 2", head(0, 2, 0, 0, 0));
        good("room\n1 2\n3;humidity\n1;minutes 2", head(2, 1, 2, 3, 0));
    }

    private static void smallestOffset() {
        bad("room 101 41 6", 2, 5);
        bad("room 100 41 6", 2, 9);
        bad("room 100 40 6#", 2, 12);
        bad("room 100 40 5#;hair 0", 1, 13);
        bad(HEAD + "hair 21 #", 2, 16);
        bad(HEAD + "hair 20 #;hair 21", 1, 19);
        bad(HEAD + "bulb 1;tighten 0 #", 3, 26);
        bad(HEAD + "bulb 1;box 0 0;box 0 4", 5, 30);
        bad(HEAD + "bulb 1;box 1 4", 2, 22);
        bad(SIX + "hair 0", 4, 53);
        bad(SIX + "bulb #", 4, 53);
        bad(HEAD + "minutes 0;minutes 100", 2, 19);
    }

    private static void firstByte() {
        bad("  rooms 1 2 3", 1, 2);
        bad("room \n 101 2 3", 2, 7);
        bad("room 1 2 3 ; hairs 4", 1, 13);
        bad("room 1 2 3 ; hair  021", 2, 19);
        bad("room 1 2 3 4444", 1, 11);
        bad("room 1 2 3;bulb 4;tighten  000", 3, 27);
        bad("room 1 2 3 \n;;", 1, 13);
    }

    private static void endsTooEarly() {
        for (String text : new String[] {"", "room", "room 1", "room 1 2", "room 1 2 3;", "room 1 2 3;hair",
            "room 1 2 3;hair 4;", "room 1 2 3;hair 4;box", "room 1 2 3;hair 4;box 0", "room 1 2 3;hair 4;tighten"}) {
            bad(text, 1, text.length());
            bad(text + " ", 1, text.length() + 1);
            bad(text + " \n", 1, text.length() + 2);
        }
        bad("room" + " ".repeat(596), 1, 600);
        bad("\n".repeat(600), 1, 600);
        bad("room 1 2 3;hair" + " ".repeat(584), 1, 599);
        HygrometerRoom room = new HygrometerRoom();
        Rooms.append(room, "room 1 2 3;hair 4");
        Check.same("a length below that of the buffer", Rooms.answer(() -> room.load(15)), "IllegalArgumentException");
        Check.same("the end that load was told", room.errorOffset(), 15);
    }

    private static void smallestKind() {
        bad("room 1000 0 0", 1, 5);
        bad(HEAD + "hair 1000", 1, 16);
        bad(HEAD + "hair100", 1, 15);
        bad(HEAD + "tighten0", 1, 18);
        bad(HEAD + "bulb 1;tighten0", 1, 25);
        bad(HEAD + "hair 1;moisten0", 1, 25);
        bad(HEAD + "hair 1;moisten 0000", 1, 26);
        bad(HEAD + "hair 1;moisten 1", 2, 26);
        bad(HEAD + "hair 1;out0", 1, 21);
        bad(HEAD + "hair 1;out 0000", 1, 22);
        bad(HEAD + "hair 1;box 0 1;box0 1", 1, 29);
        bad(HEAD + "bulb 1;tighten 0", 3, 26);
        bad(SIX + "hairs 1", 1, 53);
        bad(SIX + "minutes 1hair 1", 1, 62);
        bad(SIX + "minutes 1 hair 1", 1, 63);
    }

    private static void kindOne() {
        bad("hair 1", 1, 0);
        bad("room ; 1 2", 1, 5);
        bad("room 1 2 x", 1, 9);
        bad("room 1 2 3 ;minutes minutes", 1, 20);
        good("room 001 002 003", head(0, 1, 2, 3, 0));
        bad("room 0001 2 3", 1, 5);
        bad("room 1 2 3;minutes 0001", 1, 19);
        bad("room 1 2 3;minutes 4294967297", 1, 19);
        bad("room 1 2 3;minutes 99999999999999999999", 1, 19);
        bad("#", 1, 0);
        bad("room -1 2 3", 1, 5);
        bad("room 1,2 3", 1, 6);
        bad("room 1 2", 1, 8);
    }

    private static void kindTwo() {
        bad("room 101 0 0", 2, 5);
        bad("room 0 41 0", 2, 7);
        bad("room 0 0 6", 2, 9);
        bad(HEAD + "hair 0", 2, 16);
        bad(HEAD + "hair 21", 2, 16);
        bad(HEAD + "bulb 61", 2, 16);
        bad(HEAD + "humidity 101", 2, 20);
        bad(HEAD + "minutes 0", 2, 19);
        bad(HEAD + "minutes 100", 2, 19);
        for (String word : new String[] {"box", "out", "tighten", "moisten"}) {
            String rest = word.equals("box") ? " 0" : "";
            int at = word.length() + 1;
            bad(HEAD + word + " 0" + rest, 2, 11 + at);
            bad(HEAD + "hair 1;" + word + " 1" + rest, 2, 18 + at);
            bad(SIX + word + " 6" + rest, 2, 53 + at);
            bad(SIX + word + " 255" + rest, 2, 53 + at);
            bad(SIX + word + " 999" + rest, 2, 53 + at);
        }
        bad(HEAD + "hair 1;box 0 4", 2, 24);
        bad(HEAD + "hair 1;box 0 999", 2, 24);
    }

    /** A text of 600 bytes does not reach minute 9999, so only the other limit of 99 can be seen. */
    private static void lateMinutes() {
        String most = "room 0 0 0" + ";minutes 99".repeat(53);
        Check.same("length of the longest time", most.length(), 593);
        good(most, head(5247, 0, 0, 0, 0));
        bad("room 0 0 0" + ";minutes 99".repeat(52) + ";minutes 100", 2, 591);
        HygrometerRoom late = Rooms.of("room 0 0 0");
        Rooms.pass(late, 9999);
        Check.same("a text begins at minute 0", Rooms.load(late, "room 0 0 0;minutes 99"), 0);
        Check.same("its minute", late.minute(), 99);
    }

    private static void kindThree() {
        bad(HEAD + "hair 1;bulb 1;tighten 1", 3, 33);
        bad(HEAD + "bulb 0;tighten 0", 3, 26);
        bad(HEAD + "bulb 1;hair 1;moisten 1", 3, 33);
        bad(HEAD + "hair 1;tighten 0;moisten 0", 3, 36);
        good(HEAD + "hair 1;bulb 1;moisten 1;tighten 0", head(0, 0, 0, 0, 0)
                + "; hair 0 broken 1 wetness 0 slack 0 zero 0 box -1; bulb 60 zero 0 box -1");
    }

    private static void kindFour() {
        Check.same("the 6th", Rooms.of(SIX + "minutes 1").instrumentCount(), 6);
        bad(SIX + "hair 1", 4, 53);
        bad(SIX + "bulb 1", 4, 53);
        bad(SIX + "\n hair", 4, 55);
        bad(SIX + "hair;", 4, 53);
        bad(SIX + "bulb 1;hair 1", 4, 53);
        bad(SIX + "out 0;hair 1", 5, 57);
    }

    private static void kindFive() {
        bad(HEAD + "hair 1;box 0 3;box 0 3", 5, 30);
        bad(HEAD + "bulb 1;box 0 3;out 0;box 0 3;box 0 2", 5, 44);
        bad(HEAD + "hair 1;out 0", 5, 22);
        bad(HEAD + "bulb 1;box 0 0;out 0;out 0", 5, 36);
        bad(HEAD + "hair 1;tighten 0;tighten 0", 5, 36);
        bad("room 19 0 0;hair 2;tighten 0;tighten 0;tighten 0", 5, 47);
        good("room 20 0 0;hair 1;tighten 0;tighten 0",
                head(0, 20, 0, 0, 0) + "; hair 1 broken 0 wetness 20 slack 0 zero 0 box -1");
        good(HEAD + "bulb 0;moisten 0;moisten 0", head(0, 0, 0, 0, 0) + "; bulb 60 zero 0 box -1");
    }
}
