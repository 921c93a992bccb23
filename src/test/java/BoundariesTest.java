import java.io.IOException;
import java.nio.file.Files;
import java.nio.file.Path;
import java.util.ArrayList;
import java.util.Comparator;
import java.util.List;
import java.util.regex.Pattern;

/** A test for each sentence that names a boundary; what the document says and no test says is told. */
public final class BoundariesTest {
    private static final int PROMISES = 37;

    private BoundariesTest() {
    }

    public static void main(String[] args) throws IOException {
        Checks checks = new Checks();
        Boundaries[] all = {new ClaimsBoundaries(), new AwardsBoundaries(), new VesselsBoundaries(),
            new SeenBoundaries(), new EventsBoundaries(), new TapesBoundaries()};
        List<Says> told = new ArrayList<>();
        for (Boundaries tests : all) {
            tests.run(checks, told);
        }
        for (int promise = 0; promise <= PROMISES; promise++) {
            checks.holds("promise " + promise + " has a test", hasTest(told, promise));
        }
        Path document = args.length > 1 ? Path.of(args[1]) : null;
        if (document != null && Files.exists(document)) {
            compare(Files.readString(document), told);
        }
        System.out.println("BoundariesTest: " + told.size() + " sentences");
        checks.finish("BoundariesTest");
    }

    private static boolean hasTest(List<Says> told, int promise) {
        for (Says says : told) {
            if (says.promise() == promise) {
                return true;
            }
        }
        return false;
    }

    /** Told, but no fault: a document that is put in other words has to be read by somebody. */
    private static void compare(String document, List<Says> told) {
        for (int promise = 0; promise <= PROMISES; promise++) {
            String section = section(document, promise);
            String left = section;
            for (String words : words(told, promise)) {
                if (!section.contains(words)) {
                    System.out.println("not in the document, promise " + promise + ": " + words);
                }
                left = left.replaceAll("(?<!\\w)" + Pattern.quote(words) + "(?!\\w)", "");
            }
            left = left.replaceAll("[:;,. ]+", " ").trim();
            if (promise > 0 && !left.isEmpty()) {
                System.out.println("no test says, promise " + promise + ": " + left);
            }
        }
    }

    /** What the tests of a promise say, the longest first, as it may hold others. */
    private static List<String> words(List<Says> told, int promise) {
        List<String> words = new ArrayList<>();
        for (Says says : told) {
            if (says.promise() == promise) {
                words.addAll(List.of(says.value()));
            }
        }
        words.sort(Comparator.comparingInt(String::length).reversed());
        return words;
    }

    /** What stands of a promise behind its call; of 0 the Terms, and what follows them. */
    private static String section(String document, int promise) {
        int from = document.indexOf(promise == 0 ? "## Terms" : "## Promise " + promise + ":");
        int next = document.indexOf("\n## ", from + 1);
        String section = from < 0 ? "" : document.substring(from, next < 0 ? document.length() : next);
        int call = section.indexOf("`: ");
        String words = promise == 0 || call < 0 ? section : section.substring(call + 3);
        return words.replaceAll("\\s+", " ");
    }
}
