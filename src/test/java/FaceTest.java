import java.lang.reflect.Constructor;
import java.lang.reflect.Field;
import java.lang.reflect.Method;
import java.lang.reflect.Modifier;
import java.nio.file.Files;
import java.nio.file.Path;
import java.util.Collection;
import java.util.TreeSet;

/** The class has the document's public face, and no other member that is not private. */
public final class FaceTest {
    private static final String CLASS = "HygrometerRoom";

    public static void main(String[] args) throws Exception {
        Class<?> face = HygrometerRoom.class;
        Check.same("modifiers", Modifier.toString(face.getModifiers()), "public final");
        Check.same("face", members(face), documented());
        for (Method method : face.getDeclaredMethods()) {
            Check.same("public or private: " + method, isOpen(method.getModifiers()), false);
        }
        for (Field field : face.getDeclaredFields()) {
            Check.same("public or private: " + field, isOpen(field.getModifiers()), false);
            boolean state = Modifier.isStatic(field.getModifiers()) && !Modifier.isFinal(field.getModifiers());
            Check.same("static and not final: " + field, state, false);
        }
        for (Class<?> inside : face.getDeclaredClasses()) {
            Check.same("static: " + inside, Modifier.isStatic(inside.getModifiers()), true);
            Check.same("public: " + inside, Modifier.isPublic(inside.getModifiers()), false);
        }
        checkPrivateNames(face);
        Check.same("NONE", HygrometerRoom.NONE, -1);
        Check.finish("FaceTest");
    }

    private static boolean isOpen(int modifiers) {
        return !Modifier.isPublic(modifiers) && !Modifier.isPrivate(modifiers);
    }

    private static void checkPrivateNames(Class<?> face) {
        Collection<String> names = new TreeSet<>();
        for (Method method : face.getMethods()) {
            names.add(method.getName());
        }
        for (Method method : face.getDeclaredMethods()) {
            boolean borrowed = Modifier.isPrivate(method.getModifiers()) && names.contains(method.getName());
            Check.same("a private method with a public name: " + method, borrowed, false);
        }
    }

    private static Collection<String> members(Class<?> face) {
        Collection<String> members = new TreeSet<>();
        for (Constructor<?> constructor : face.getDeclaredConstructors()) {
            members.add(constructor.toGenericString());
        }
        for (Method method : face.getDeclaredMethods()) {
            if (Modifier.isPublic(method.getModifiers())) {
                members.add(method.toString());
            }
        }
        for (Field field : face.getFields()) {
            members.add(field.toString());
        }
        Collection<String> plain = new TreeSet<>();
        for (String member : members) {
            plain.add(member.replace(CLASS + ".", "").replace("java.lang.", ""));
        }
        return plain;
    }

    /** The lines of the document's Java block, without names of parameters and values. */
    private static Collection<String> documented() throws Exception {
        String text = Files.readString(Path.of(System.getProperty("shared"), "DOC.md"));
        String block = text.substring(text.indexOf("```java"), text.indexOf("```", text.indexOf("```java") + 3));
        Collection<String> lines = new TreeSet<>();
        for (String line : block.split("\n")) {
            if (line.startsWith("    public")) {
                String bare = line.trim().replaceAll(" = -1;|;", "");
                String typed = bare.replaceAll("int [a-z]+(?=[,)])", "int");
                lines.add(typed.replace(", ", ","));
            }
        }
        return lines;
    }
}
