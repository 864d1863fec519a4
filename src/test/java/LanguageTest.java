import java.nio.file.Files;
import java.nio.file.Path;
import java.util.regex.Matcher;
import java.util.regex.Pattern;

/** Looks in the source of the class for what ../shared/LANGUAGE.md rules out and a look can find. */
public final class LanguageTest {
    private static final String[] RULED_OUT = {
        "\\bimport\\b", "\\bpackage\\b", "\\bcatch\\b", "\\bfinally\\b", "\\bsynchronized\\b", "\\bassert\\b",
        "\\bprotected\\b", "->", "::", "static \\{", "\\bvar\\b", "\\bSystem\\.(?!arraycopy)", "\\bThread\\b",
        "\\bwhile \\(true\\)", "\\bfor \\(;;\\)", "Exact\\(", "\\bMath\\.(?!max|min|abs)", "\" \\+", "\\+ \"",
    };
    private static final Pattern HEAD = Pattern.compile("(?m)^( +)[^\\n;=]*\\([^;=]*\\)[^;=()]*\\{$");

    public static void main(String[] args) throws Exception {
        String source = Files.readString(Path.of(System.getProperty("class.source")));
        String code = source.replaceAll("(?s)/\\*.*?\\*/", "").replaceAll("//[^\\n]*", "");
        String bare = code.replaceAll("\"[^\"\\n]*\"", "\"\"");
        for (String pattern : RULED_OUT) {
            Matcher found = Pattern.compile(pattern).matcher(bare);
            Check.same("rules out " + pattern, found.find() ? found.group() : null, null);
        }
        checkObjects(bare);
        checkLengths(bare);
        checkClasses(bare);
        checkThrows(bare);
        Check.same("signs 1 to 127", source.matches("(?s)[\\x01-\\x7f]*"), true);
        Check.finish("LanguageTest");
    }

    /** A room makes all its objects when it is made; later only exceptions. */
    private static void checkObjects(String code) {
        for (String line : code.split("\n")) {
            if (line.contains("new ")) {
                boolean early = line.matches(" *(private )?final .* = new .*;")
                        || line.matches(" *(instruments|past|rooms)\\[i\\] = new (Instrument|Room)\\(\\);");
                Check.same("an object of a call: " + line, early || line.contains("throw new "), true);
            }
        }
    }

    private static void checkLengths(String code) {
        Matcher head = HEAD.matcher(code);
        int methods = 0;
        while (head.find()) {
            methods++;
            int end = code.indexOf("\n" + head.group(1) + "}\n", head.end());
            long lines = code.substring(head.start(), Math.max(head.start(), end)).lines().count();
            Check.same("sixty lines hold " + head.group().trim(), end > 0 && lines <= 60, true);
            int comma = head.group().split(",").length;
            Check.same("seven parameters hold " + head.group().trim(), comma <= 7, true);
        }
        Check.same("methods were found", methods > 60, true);
    }

    private static void checkClasses(String code) {
        Matcher inside = Pattern.compile("(?m)^ *(.*)\\bclass (\\w+) \\{$").matcher(code);
        int classes = 0;
        while (inside.find()) {
            classes++;
            String due = classes == 1 ? "public final " : "private static final ";
            Check.same("modifiers of " + inside.group(2), inside.group(1), due);
        }
        Check.same("at most twelve classes", classes > 0 && classes <= 12, true);
    }

    private static void checkThrows(String code) {
        Matcher thrown = Pattern.compile("throw\\b[^;]*;").matcher(code);
        while (thrown.find()) {
            String form = "throw new (IllegalState|IllegalArgument|IndexOutOfBounds)Exception\\(\"\"\\);";
            Check.same("form of " + thrown.group(), thrown.group().matches(form), true);
        }
    }
}
