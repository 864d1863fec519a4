import java.lang.reflect.InvocationTargetException;
import java.nio.file.Files;
import java.nio.file.Path;
import java.util.ArrayList;
import java.util.List;
import java.util.regex.Matcher;
import java.util.regex.Pattern;
import javax.tools.ToolProvider;

/**
 * README.md says what is so: its examples are compiled and run, each call with the answer that stands
 * behind it; its texts have the errors that it tells; and its table has the calls of the document.
 */
public final class ReadmeTest {
    private static final String PROGRAM = "ReadmeProgram";
    private static final Pattern EXAMPLE = Pattern.compile(
            "(?<call>.*\\S);\\s+// (throws (?<thrown>\\w+)|(?<answer>\"[^\"]*\"|[^\\s:]+))(: .*)?");
    private static final Pattern TEXT = Pattern.compile("\\| (\\d) \\| [^|]* \\| `([^`]*)` \\| (\\d+) \\|");
    private static final Pattern ROW = Pattern.compile("\\| `(\\w+\\([a-z, ]*\\))` \\| [^|]+ \\| ([^|]*)\\|");
    private static final Pattern FACE = Pattern.compile("    public \\w+ (\\w+\\(.*?\\))( throws .*)?;");

    public static void main(String[] args) throws Exception {
        List<String> readme = Files.readAllLines(Path.of("README.md"));
        List<String> document = Files.readAllLines(Path.of(System.getProperty("shared"), "DOC.md"));
        runExamples(readme);
        checkTexts(readme);
        Check.same("the grammar", blocks(readme, "text"), blocks(document, "text"));
        Check.same("the table of all calls", table(readme), face(document));
        checkNamedThings(readme);
        Check.finish("ReadmeTest");
    }

    /** The lines of the blocks of one language, each with its number before it. */
    private static List<List<String>> numbered(List<String> lines, String language) {
        List<List<String>> blocks = new ArrayList<>();
        boolean inside = false;
        for (int i = 0; i < lines.size(); i++) {
            String line = lines.get(i);
            if (line.equals("```" + language)) {
                inside = true;
                blocks.add(new ArrayList<>());
            } else if (line.equals("```")) {
                inside = false;
            } else if (inside) {
                blocks.get(blocks.size() - 1).add(i + 1 + "\t" + line);
            }
        }
        return blocks;
    }

    private static List<List<String>> blocks(List<String> lines, String language) {
        List<List<String>> blocks = new ArrayList<>();
        for (List<String> block : numbered(lines, language)) {
            blocks.add(block.stream().map(x -> x.substring(x.indexOf('\t') + 1)).toList());
        }
        return blocks;
    }

    /** Methods stay as they are; of all other blocks one program is made, in the order of the page. */
    private static String program(List<String> readme) {
        StringBuilder methods = new StringBuilder();
        StringBuilder body = new StringBuilder();
        for (List<String> block : numbered(readme, "java")) {
            boolean method = block.get(0).contains("\tstatic ");
            for (String line : block) {
                String code = line.substring(line.indexOf('\t') + 1);
                String number = line.substring(0, line.indexOf('\t'));
                (method ? methods : body).append(method ? code : statement(number, code)).append('\n');
            }
        }
        return "final class " + PROGRAM + " {\n" + methods + "static void run() {\n" + body + "}\n}\n";
    }

    private static String statement(String number, String code) {
        Matcher example = EXAMPLE.matcher(code);
        if (!example.matches()) {
            Check.same("line " + number + " asks something without an answer", code.contains(" = new "), true);
            return code;
        }
        String call = example.group("call");
        String what = "\"line " + number + " " + call.replace("\"", "\\\"") + "\"";
        if (example.group("thrown") != null) {
            return "Check.fails(" + what + ", " + example.group("thrown") + ".class, () -> " + call + ");";
        }
        return "Check.same(" + what + ", " + call + ", " + example.group("answer") + ");";
    }

    /** The program lies beside the tests, so that it may use their classes. */
    private static void runExamples(List<String> readme) throws Exception {
        Path classes = Path.of(ReadmeTest.class.getProtectionDomain().getCodeSource().getLocation().toURI());
        Path source = classes.resolve(PROGRAM + ".java");
        Files.writeString(source, program(readme));
        int code = ToolProvider.getSystemJavaCompiler().run(null, null, null, "-Xlint:all", "-Werror", "-cp",
                classes.toString(), "-d", classes.toString(), source.toString());
        Check.same("the examples compile: exit code", code, 0);
        if (code != 0) {
            return;
        }
        int before = Check.asked();
        try {
            Class.forName(PROGRAM).getDeclaredMethod("run").invoke(null);
        } catch (InvocationTargetException e) {
            Check.same("the examples end with", e.getCause(), null);
        }
        Check.same("the examples ask some fifty questions", Check.asked() - before >= 50, true);
    }

    private static void checkTexts(List<String> readme) {
        List<Integer> kinds = new ArrayList<>();
        for (String line : readme) {
            Matcher text = TEXT.matcher(line);
            if (text.matches()) {
                HygrometerRoom room = new HygrometerRoom();
                Check.fails(text.group(2), IllegalArgumentException.class, () -> Rooms.load(room, text.group(2)));
                Check.same("kind of " + text.group(2), "" + room.errorKind(), text.group(1));
                Check.same("offset of " + text.group(2), "" + room.errorOffset(), text.group(3));
                kinds.add(room.errorKind());
            }
        }
        Check.same("a text of each kind", kinds, List.of(1, 2, 3, 4, 5));
    }

    /** The calls of the table, each with the letters of what it throws, in their order. */
    private static List<String> table(List<String> readme) {
        List<String> calls = new ArrayList<>();
        for (String line : readme) {
            Matcher row = ROW.matcher(line);
            if (row.matches()) {
                String letters = row.group(2).replaceAll("[^*]*\\*\\*([BAS])\\*\\*[^*]*", "$1").trim();
                calls.add(row.group(1) + " " + letters);
            }
        }
        return calls;
    }

    private static List<String> face(List<String> document) {
        List<String> calls = new ArrayList<>();
        for (String line : document) {
            Matcher call = FACE.matcher(line);
            if (call.matches()) {
                String thrown = call.group(2) == null ? "" : call.group(2).replaceAll("throws|[ ,]", "")
                        .replace("IndexOutOfBoundsException", "B").replace("IllegalArgumentException", "A")
                        .replace("IllegalStateException", "S");
                calls.add(call.group(1).replaceAll("\\w+ (?=\\w)", "") + " " + thrown);
            }
        }
        return calls;
    }

    private static void checkNamedThings(List<String> readme) {
        String text = String.join("\n", readme);
        Check.same("the text of a new object", text.contains("    " + Rooms.FIRST_TEXT + "\n"), true);
        Check.same("the command", text.contains("\n    .ci/run\n"), true);
        Check.same("the command can be run", Files.isExecutable(Path.of(".ci/run")), true);
        Check.same("the class", text.contains("`" + System.getProperty("class.source") + "`"), true);
    }
}
