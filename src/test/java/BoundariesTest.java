import java.io.IOException;
import java.nio.charset.StandardCharsets;
import java.nio.file.Files;
import java.nio.file.Path;
import java.util.ArrayList;
import java.util.List;

/**
 * Each sentence of the document that names a boundary case has a test of its own, which quotes it. The
 * quotes are held against the document, so that none is old and none is left out.
 */
public final class BoundariesTest {
    private static final Path DOCUMENT = Path.of("../shared/DOC.md");

    /** What sentences of promises begin with; the rest tells what a call is for and what its arguments mean. */
    private static final List<String> BEGINNINGS = List.of("Returns ", "Throws ", "Creates ", "Computes ",
            "Sets a stage");

    /** Terms that name no boundary case. */
    private static final List<String> NO_BOUNDARY = List.of("Families are parents,", "Ahead of the calls",
            "All numbers are whole.", "People.", "Code.", "Mourning.");

    private BoundariesTest() {
    }

    public static void main(String[] args) throws IOException {
        BoundsOfTerms.run();
        BoundsOfPeople.run();
        BoundsOfMourning.run();
        Bounds.endSentence();
        holdAgainstDocument();
        Check.end("BoundariesTest");
    }

    private static void holdAgainstDocument() throws IOException {
        List<Bounds.Sentence> written = new ArrayList<>();
        String section = "";
        for (String line : Files.readAllLines(DOCUMENT, StandardCharsets.UTF_8)) {
            if (line.startsWith("## ")) {
                section = sectionOf(line);
            } else {
                addSentences(section, line, written);
            }
        }
        for (Bounds.Sentence sentence : Bounds.tested()) {
            Check.due(sentence + " stands in the document", written.contains(sentence) ? 1 : 0, 1);
        }
        for (Bounds.Sentence sentence : written) {
            boolean due = namesBoundary(sentence);
            Check.due(sentence + " has a test", !due || Bounds.tested().contains(sentence) ? 1 : 0, 1);
        }
    }

    /** "Promise 4" of "## Promise 4: marry". */
    private static String sectionOf(String line) {
        int colon = line.indexOf(':');
        return line.substring(3, colon < 0 ? line.length() : colon);
    }

    private static void addSentences(String section, String line, List<Bounds.Sentence> written) {
        if (section.startsWith("Promise")) {
            int behindFace = line.startsWith("`") ? line.indexOf("`: ") + 3 : 0;
            written.add(new Bounds.Sentence(section, line.substring(behindFace)));
            return;
        }
        for (String words : line.split("(?<=\\.) ")) {
            written.add(new Bounds.Sentence(section, words));
        }
    }

    private static boolean namesBoundary(Bounds.Sentence sentence) {
        if (sentence.section().equals("Terms")) {
            return !sentence.words().isEmpty() && NO_BOUNDARY.stream().noneMatch(sentence.words()::startsWith);
        }
        boolean ofPromise = sentence.section().startsWith("Promise");
        return ofPromise && BEGINNINGS.stream().anyMatch(sentence.words()::startsWith);
    }
}
