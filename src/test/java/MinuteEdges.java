/** Boundary cases of "One minute". */
final class MinuteEdges {
    private MinuteEdges() {
    }

    static void run() {
        Sentences.in("One minute");
        Sentences.hold("When a minute passes, these things happen in this order.", MinuteEdges::numberFirst);
        Sentences.hold("The minute number increases by 1.", MinuteEdges::minuteNumber);
        Sentences.hold("The wetness of each hair hygrometer that has hairs moves towards its surrounding humidity by 1"
                + " plus 20 divided by the number of hairs, or to this humidity if it is nearer.",
                MinuteEdges::wetness);
        Sentences.hold("The water of each wet bulb that has water decreases by 1.", MinuteEdges::water);
        Sentences.hold("If the minute number is a multiple of 10, the slack of each hair hygrometer that is below 50"
                + " increases by 1.", MinuteEdges::slack);
        Sentences.hold("If the minute number is a multiple of 60, the apprentice brings as many hairs as his skill"
                + " tells; the stock of hairs does not exceed 99, and what is too much is not brought.",
                MinuteEdges::apprentice);
    }

    /** The new minute number counts for the slack and the apprentice, not the old one. */
    private static void numberFirst() {
        HygrometerRoom room = Rooms.of("room 0 0 1;hair 20;bulb 2;humidity 9;minutes 59");
        Check.same("before 60", Rooms.state(room), "minute 59 humidity 9 temperature 0 skill 1 stock 0 difference 0"
                + "; hair 20 broken 0 wetness 9 slack 5 zero 0 box -1; bulb 0 zero 0 box -1");
        room.setHumidity(0);
        room.moisten(1);
        Check.same("brought in minute 60", room.advance(1), 1);
        Check.same("at 60", Rooms.state(room), "minute 60 humidity 0 temperature 0 skill 1 stock 1 difference 0"
                + "; hair 20 broken 0 wetness 7 slack 6 zero 0 box -1; bulb 59 zero 0 box -1");
        Check.same("brought in minute 61", room.advance(1), 0);
        Check.same("at 61", Rooms.state(room), "minute 61 humidity 0 temperature 0 skill 1 stock 1 difference 0"
                + "; hair 20 broken 0 wetness 5 slack 6 zero 0 box -1; bulb 58 zero 0 box -1");
    }

    private static void minuteNumber() {
        HygrometerRoom room = Rooms.of("room 0 0 0");
        Check.same("first", room.minute(), 0);
        room.advance(1);
        Check.same("one later", room.minute(), 1);
        room.advance(99);
        Check.same("99 later", room.minute(), 100);
        Rooms.pass(room, 9898);
        Check.same("before the last", room.minute(), 9998);
        room.advance(1);
        Check.same("the last", room.minute(), 9999);
    }

    private static void wetness() {
        for (int hairs = 1; hairs <= 20; hairs++) {
            int step = 1 + 20 / hairs;
            for (int way = step - 1; way <= step + 1; way++) {
                Check.same(hairs + " hairs, up " + way, moved(hairs, 50, 50 + way), 50 + Math.min(way, step));
                Check.same(hairs + " hairs, down " + way, moved(hairs, 50, 50 - way), 50 - Math.min(way, step));
            }
            Check.same(hairs + " hairs, there already", moved(hairs, 50, 50), 50);
            Check.same(hairs + " hairs, up to the end", moved(hairs, 101 - step, 100), 100);
            Check.same(hairs + " hairs, down to the end", moved(hairs, step - 1, 0), 0);
        }
        withoutHairs();
        inTheBox();
    }

    private static int moved(int hairs, int from, int to) {
        String text = "room " + from + " 0 0;hair " + hairs + ";humidity " + to;
        HygrometerRoom room = Rooms.of(text);
        room.advance(1);
        return room.wetnessOf(0);
    }

    private static void withoutHairs() {
        HygrometerRoom room = Rooms.of("room 10 0 5;hair 1;tighten 0;humidity 100;minutes 60");
        Check.same("no hairs", room.wetnessOf(0), 10);
        room.addHairs(0, 1);
        room.advance(1);
        Check.same("one hair", room.wetnessOf(0), 31);
    }

    private static void inTheBox() {
        HygrometerRoom room = Rooms.of("room 36 0 0;hair 20;hair 20;hair 20;humidity 100;box 0 0;box 1 3;minutes 1");
        int[] due = {34, 38, 38};
        for (int i = 0; i < 3; i++) {
            Check.same("after a minute " + i, room.wetnessOf(i), due[i]);
        }
        room.advance(1);
        Check.same("at the fixed point", room.wetnessOf(0), 33);
        room.advance(99);
        int[] last = {33, 97, 100};
        for (int i = 0; i < 3; i++) {
            Check.same("at last " + i, room.wetnessOf(i), last[i]);
        }
    }

    private static void water() {
        HygrometerRoom room = Rooms.of("room 0 0 0;bulb 0;bulb 1;bulb 2;bulb 60;box 3 0");
        int[][] due = {{0, 1, 2, 60}, {0, 0, 1, 59}, {0, 0, 0, 58}, {0, 0, 0, 57}};
        for (int minute = 0; minute < due.length; minute++) {
            for (int i = 0; i < 4; i++) {
                Check.same("water of " + i + " at " + minute, room.waterOf(i), due[minute][i]);
            }
            room.advance(1);
        }
    }

    private static void slack() {
        HygrometerRoom room = Rooms.of("room 50 0 0;hair 1;hair 20;bulb 1;hair 7;box 1 3");
        for (int minute = 0; minute <= 21; minute++) {
            for (int i = 0; i < 4; i++) {
                Check.same("slack of " + i + " at " + minute, room.slackOf(i), i == 2 ? -1 : minute / 10);
            }
            room.advance(1);
        }
        Rooms.pass(room, 477);
        Check.same("at 499", room.slackOf(0), 49);
        room.tighten(1);
        room.advance(1);
        Check.same("49 increases", room.slackOf(0), 50);
        Check.same("0 increases", room.slackOf(1), 1);
        Rooms.pass(room, 10);
        Check.same("50 stays", room.slackOf(0), 50);
        Check.same("1 increases", room.slackOf(1), 2);
        slackWithoutHairs();
    }

    /** The sentence says "each hair hygrometer": one without hairs is none the less one. */
    private static void slackWithoutHairs() {
        HygrometerRoom room = Rooms.of("room 19 0 0;hair 1;minutes 9;tighten 0");
        Check.same("no hairs", room.hairsOf(0), 0);
        Check.same("without hairs at 9", room.slackOf(0), 0);
        room.advance(1);
        Check.same("without hairs at 10", room.slackOf(0), 1);
        Check.same("forecast without hairs", room.readingAfter(0, 40), 18);
        Rooms.pass(room, 489);
        Check.same("without hairs at 499", room.slackOf(0), 49);
        room.advance(1);
        Check.same("without hairs at 500", room.slackOf(0), 50);
        Rooms.pass(room, 10);
        Check.same("without hairs at 510", room.slackOf(0), 50);
    }

    private static void apprentice() {
        for (int skill = 0; skill <= 5; skill++) {
            HygrometerRoom room = Rooms.of("room 0 0 " + skill + ";minutes 58");
            int[] due = {0, 0, skill, skill, skill};
            for (int minute = 58; minute <= 61; minute++) {
                Check.same("skill " + skill + " at " + minute, room.hairStock(), due[minute - 58]);
                room.advance(1);
            }
        }
        for (int stock = 93; stock <= 99; stock++) {
            fill(stock);
        }
    }

    /** A stock of 93 to 99, and an apprentice of the greatest skill. */
    private static void fill(int stock) {
        HygrometerRoom room = Rooms.of("room 0 0 1");
        Check.same("one an hour", Rooms.pass(room, 60 * stock), stock);
        Check.same("the stock", room.hairStock(), stock);
        room.setSkill(5);
        int due = Math.min(5, 99 - stock);
        Check.same("brought to " + stock, Rooms.pass(room, 60), due);
        Check.same("the stock after " + stock, room.hairStock(), stock + due);
        Check.same("nothing is lost after " + stock, room.hairDifference(), 0);
    }
}
