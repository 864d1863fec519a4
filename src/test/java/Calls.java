import java.lang.reflect.InvocationTargetException;
import java.lang.reflect.Method;
import java.lang.reflect.Modifier;
import java.util.Set;
import java.util.TreeSet;

/** The calls of the face by their names, each with arguments that a certain room does not refuse. */
final class Calls {
    private Calls() {
    }

    /** On this room each call returns normally; one change is recorded. */
    static HygrometerRoom room() {
        HygrometerRoom room = Rooms.of("room 50 20 5;hair 10;minutes 60;bulb 30;box 1 2");
        room.save(0);
        room.setTemperature(21);
        room.writeReadings();
        Rooms.append(room, "room 1 2 3");
        return room;
    }

    static Set<String> names() {
        Set<String> names = new TreeSet<>();
        for (Method method : HygrometerRoom.class.getDeclaredMethods()) {
            if (Modifier.isPublic(method.getModifiers())) {
                names.add(method.getName());
            }
        }
        return names;
    }

    private static int[] arguments(String name) {
        return switch (name) {
            case "append" -> new int[] {1, 2, 3, 4, 5};
            case "load" -> new int[] {10};
            case "advance", "takeOut", "calibrate", "moisten" -> new int[] {1};
            case "readingAfter" -> new int[] {0, 9};
            case "putInBox" -> new int[] {0, 3};
            case "addHairs" -> new int[] {0, 2};
            default -> new int[method(name).getParameterCount()];
        };
    }

    static Object make(HygrometerRoom room, String name) {
        return make(room, name, arguments(name));
    }

    static Object make(HygrometerRoom room, String name, int... arguments) {
        Object[] values = new Object[arguments.length];
        for (int i = 0; i < values.length; i++) {
            values[i] = arguments[i];
        }
        try {
            return method(name).invoke(room, values);
        } catch (InvocationTargetException e) {
            throw (RuntimeException) e.getCause();
        } catch (IllegalAccessException e) {
            throw new AssertionError(e);
        }
    }

    private static Method method(String name) {
        for (Method method : HygrometerRoom.class.getDeclaredMethods()) {
            if (method.getName().equals(name) && Modifier.isPublic(method.getModifiers())) {
                return method;
            }
        }
        throw new AssertionError(name);
    }
}
