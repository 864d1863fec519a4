import java.lang.reflect.InvocationTargetException;
import java.lang.reflect.Method;
import java.util.ArrayList;
import java.util.Arrays;
import java.util.Comparator;
import java.util.List;
import java.util.Random;

/** All promises: long runs of calls, always the same ones, each answered as the model answers it. */
public final class ModelTest {
    private static final int RUNS = 3000;
    private static final int CALLS = 512;
    private static final String[] CHANGES = {
        "advance", "advance", "advance", "setHumidity", "setTemperature", "setSkill", "putInBox", "putInBox",
        "takeOut", "calibrate", "calibrate", "tighten", "tighten", "moisten", "addHairs", "addHairs", "restore",
        "undo", "undo", "save", "writeInstrument", "writeReadings",
    };
    private static final String[] WORDS = {
        "hair", "bulb", "box", "out", "tighten", "moisten", "humidity", "minutes",
    };
    private static final List<Method> FACE = face();

    private final Random random;
    private final HygrometerRoom room = new HygrometerRoom();
    private final Model model = new Model();
    private final List<String> trace = new ArrayList<>();
    private int calls = 0;

    private ModelTest(long seed) {
        random = new Random(seed);
    }

    public static void main(String[] args) {
        for (long seed = 1; seed <= RUNS; seed++) {
            new ModelTest(seed).run((int) (seed % 4));
        }
        Check.finish("ModelTest");
    }

    private static List<Method> face() {
        List<Method> face = new ArrayList<>();
        for (Method method : Model.class.getDeclaredMethods()) {
            if (java.lang.reflect.Modifier.isPublic(method.getModifiers())) {
                face.add(method);
            }
        }
        // The order of declared methods is free, and the runs are to be the same ones each time.
        face.sort(Comparator.comparing(Method::getName));
        return face;
    }

    /** A run is of mixed calls, of many changes, of few texts and much time, or of many texts. */
    private void run(int flavour) {
        int texts = new int[] {30, 60, 400, 4}[flavour];
        int changes = new int[] {3, 8, 9, 2}[flavour];
        while (calls < CALLS) {
            if (random.nextInt(texts) == 0) {
                text();
            } else if (random.nextInt(10) < changes) {
                call(method(CHANGES[flavour == 2 && random.nextBoolean() ? 0 : random.nextInt(CHANGES.length)]));
            } else {
                call(FACE.get(random.nextInt(FACE.size())));
            }
        }
    }

    private static Method method(String name) {
        return FACE.stream().filter(x -> x.getName().equals(name)).findFirst().orElseThrow();
    }

    private void call(Method method) {
        Object[] values = new Object[method.getParameterCount()];
        for (int i = 0; i < values.length; i++) {
            values[i] = value(method.getName(), i);
        }
        call(method, values);
    }

    private void call(Method method, Object... values) {
        if (calls >= CALLS) {
            return;
        }
        calls++;
        String text = method.getName() + Arrays.toString(values);
        trace.add(text);
        Object got = answer(room, method, values);
        Object due = answer(model, method, values);
        boolean same = got.equals(due);
        Check.same("call " + calls + " " + text + (same ? "" : " of " + trace), got, due);
    }

    private static Object answer(Object object, Method method, Object[] values) {
        try {
            return object.getClass().getMethod(method.getName(), method.getParameterTypes()).invoke(object, values);
        } catch (InvocationTargetException e) {
            return e.getCause().getClass() == ArrayIndexOutOfBoundsException.class && object instanceof Model
                    || e.getCause().getClass() == StringIndexOutOfBoundsException.class && object instanceof Model
                    ? IndexOutOfBoundsException.class : e.getCause().getClass();
        } catch (ReflectiveOperationException e) {
            throw new AssertionError(e);
        }
    }

    private int value(String name, int place) {
        int wild = random.nextInt(60);
        if (wild == 0) {
            return random.nextInt();
        }
        if (name.equals("append")) {
            return random.nextInt();
        }
        if (wild == 1) {
            return random.nextBoolean() ? -1 - random.nextInt(2) : random.nextInt(700);
        }
        boolean first = place == 0;
        return switch (name) {
            case "advance" -> random.nextInt(3) == 0 ? 1 + random.nextInt(9) : random.nextInt(101);
            case "setHumidity" -> random.nextInt(4) == 0 ? random.nextInt(20) : random.nextInt(102);
            case "setTemperature" -> random.nextInt(42);
            case "setSkill" -> random.nextInt(7);
            case "load" -> random.nextInt(30);
            case "outputByte" -> random.nextInt(12);
            case "restore", "save" -> random.nextInt(12) == 0 ? 2 : random.nextInt(2);
            case "readingAfter" -> first ? random.nextInt(5) : random.nextInt(202);
            case "addHairs" -> first ? random.nextInt(5) : 1 + random.nextInt(random.nextBoolean() ? 4 : 21);
            default -> random.nextInt(first && !name.equals("fixedPoint") ? Math.max(1, model.instrumentCount()) + 1 : 5);
        };
    }

    private void text() {
        String text = spoilt(description());
        byte[] bytes = text.getBytes(java.nio.charset.StandardCharsets.ISO_8859_1);
        byte[] whole = Arrays.copyOf(bytes, Math.min(600, (bytes.length + 19) / 20 * 20));
        for (int from = 0; from < whole.length; from += 20) {
            Object[] words = new Object[5];
            for (int i = 0; i < 5; i++) {
                words[i] = java.nio.ByteBuffer.wrap(whole).getInt(from + 4 * i);
            }
            call(method("append"), words);
        }
        call(method("load"), Math.min(text.length(), 600) - (random.nextInt(12) == 0 ? random.nextInt(6) : 0));
        call(method("errorKind"));
        call(method("errorOffset"));
    }

    private String description() {
        StringBuilder text = new StringBuilder(blank("", 9) + "room " + number(101) + " " + number(41) + " " + number(6));
        int lines = random.nextInt(random.nextInt(5) == 0 ? 40 : 12);
        for (int i = 0; i < lines; i++) {
            String word = WORDS[random.nextInt(i < 4 ? 3 : WORDS.length)];
            text.append(blank("", 3)).append(';').append(blank("", 3)).append(word).append(blank(" ", 5));
            text.append(switch (word) {
                case "hair" -> number(21);
                case "bulb" -> number(61);
                case "humidity" -> number(random.nextBoolean() ? 101 : 20);
                case "minutes" -> number(100);
                case "box" -> number(4) + blank(" ", 5) + number(4);
                default -> number(4);
            });
        }
        return text + blank("", 9);
    }

    private String number(int bound) {
        int value = random.nextInt(40) == 0 ? bound + random.nextInt(3) : random.nextInt(bound);
        return random.nextInt(9) == 0 ? String.format("%03d", value) : "" + value;
    }

    private String blank(String least, int rare) {
        return random.nextInt(rare) == 0 ? least + (random.nextBoolean() ? "\n" : "  ") : least;
    }

    /** Sometimes puts a byte in, takes one away, or puts another one in its place. */
    private String spoilt(String text) {
        StringBuilder spoilt = new StringBuilder(text);
        for (int i = random.nextInt(3) - 1; i > 0; i--) {
            int at = random.nextInt(spoilt.length());
            String signs = "ax09; \n;#" + (char) random.nextInt(256);
            char sign = signs.charAt(random.nextInt(signs.length()));
            switch (random.nextInt(3)) {
                case 0 -> spoilt.insert(at, sign);
                case 1 -> spoilt.deleteCharAt(at);
                default -> spoilt.setCharAt(at, sign);
            }
        }
        return spoilt.toString();
    }
}
