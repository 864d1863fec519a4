import java.nio.file.Files;
import java.nio.file.Path;
import java.util.LinkedHashSet;
import java.util.Set;

/**
 * The sentences of ../shared/DOC.md from "Terms" to the last promise: each is to have a test of its
 * own, and no test may quote a sentence that the document does not have.
 */
final class Sentences {
    private static final Set<String> HEADINGS = Set.of("Room and salts", "Instruments", "Blend", "Calibration",
            "One minute", "Description text", "History");
    private static final Set<String> UNTESTED = new LinkedHashSet<>();
    private static String section = "";

    private Sentences() {
    }

    static void read() throws Exception {
        String text = Files.readString(Path.of(System.getProperty("shared"), "DOC.md"));
        String body = text.substring(text.indexOf("## Terms"), text.indexOf("## Not promised"));
        for (String line : body.split("\n")) {
            readLine(line.trim());
        }
        Check.same("the document has sentences", UNTESTED.size() > 250, true);
    }

    private static void readLine(String line) {
        if (line.isEmpty() || line.startsWith("```")) {
            return;
        }
        if (line.startsWith("## ") || HEADINGS.contains(line)) {
            in(line.replaceAll("^## |:.*$", ""));
            return;
        }
        String bare = line.replaceAll("^(- |\\d+\\. )", "").replaceAll("^`[^`]*\\)[^`]*`: ", "");
        for (String sentence : bare.split("(?<=\\.) (?=[\"A-Z])")) {
            UNTESTED.add(section + " | " + sentence.replaceAll(" +", " "));
        }
    }

    static void in(String newSection) {
        section = newSection;
    }

    static void in(int promise) {
        in("Promise " + promise);
    }

    static void hold(String sentence, Runnable test) {
        String told = section + " | " + sentence;
        Check.same("the document says: " + told, UNTESTED.remove(told), true);
        int before = Check.asked();
        Check.about("[" + told + "] ");
        test.run();
        Check.about("");
        Check.same("a question is asked about: " + told, Check.asked() > before, true);
    }

    static void finish() {
        Check.same("sentences without a test", UNTESTED, Set.of());
    }
}
