import java.util.Objects;

/** Counts the questions of one test and prints those whose answer is not the one that is due. */
final class Check {
    private static int asked = 0;
    private static int wrong = 0;

    private Check() {
    }

    interface Call {
        void make();
    }

    static void same(String what, Object got, Object due) {
        asked++;
        if (!Objects.equals(got, due)) {
            wrong++;
            System.out.println(what + ": answered " + got + ", due is " + due);
        }
    }

    /** The exception must be of the very class, not of one below it. */
    static void fails(String what, Class<? extends RuntimeException> due, Call call) {
        Class<?> got = null;
        try {
            call.make();
        } catch (RuntimeException e) {
            got = e.getClass();
        }
        same(what + " throws", got, due);
    }

    /** Checks that the call throws, and that all the questions of the face answer as before. */
    static void refuses(String what, Class<? extends RuntimeException> due, HygrometerRoom room, Call call) {
        String before = Rooms.picture(room);
        fails(what, due, call);
        same(what + " alters nothing", Rooms.picture(room), before);
    }

    static void finish(String test) {
        System.out.println(test + ": " + asked + " questions, " + wrong + " wrong answers");
        if (wrong != 0 || asked == 0) {
            System.exit(1);
        }
    }
}
