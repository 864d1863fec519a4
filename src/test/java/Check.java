import java.util.Objects;
import java.util.function.Consumer;
import java.util.function.Supplier;

/** Counts the questions of one test and prints those whose answer is not the one that is due. */
final class Check {
    private static int asked = 0;
    private static int wrong = 0;
    private static String about = "";

    private Check() {
    }

    interface Call {
        void make();
    }

    static int asked() {
        return asked;
    }

    /** What the next questions are about; it stands before each message. */
    static void about(String newAbout) {
        about = newAbout;
    }

    static void same(String what, Object got, Object due) {
        asked++;
        if (!Objects.equals(got, due)) {
            wrong++;
            System.out.println(about + what + ": answered " + got + ", due is " + due);
        }
    }

    /** The exception must be of the very class, not of one below it. */
    static void fails(String what, Class<? extends RuntimeException> due, Call call) {
        Class<?> got = null;
        try {
            call.make();
        } catch (RuntimeException e) {
            got = e.getClass();
        }
        same(what + " throws", got, due);
    }

    /** Checks that the call throws, and that all the questions of the face answer as before. */
    static void refuses(String what, Class<? extends RuntimeException> due, HygrometerRoom room, Call call) {
        String before = Rooms.picture(room);
        fails(what, due, call);
        same(what + " alters nothing", Rooms.picture(room), before);
    }

    /** Like refuses, but compares all that a room holds with a room that was made alike. */
    static void refused(String what, Class<? extends RuntimeException> due, Supplier<HygrometerRoom> made,
            Consumer<HygrometerRoom> call) {
        HygrometerRoom room = made.get();
        fails(what, due, () -> call.accept(room));
        same(what + " alters nothing", Rooms.whole(room), Rooms.whole(made.get()));
    }

    static void finish(String test) {
        System.out.println(test + ": " + asked + " questions, " + wrong + " wrong answers");
        if (wrong != 0 || asked == 0) {
            System.exit(1);
        }
    }
}
