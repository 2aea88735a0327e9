import java.io.IOException;
import java.nio.file.Files;
import java.nio.file.Path;
import java.util.ArrayList;
import java.util.Comparator;
import java.util.List;

/**
 * Tests of boundary cases, each named by the words of the document that it would find broken. The words have to
 * stand there, and no words that tell a refusal may be without a test.
 */
final class Edges {
    static final String ORDER = "If several exceptions apply, the one that is named first is thrown.";
    static final String NOTHING = "A method that throws an exception changes nothing.";
    private static final int PROMISES = 26;

    final Check check;
    /** The number 0 is all that stands ahead of the promises. */
    private final String[] sections;
    private final List<List<String>> tested = new ArrayList<>();

    Edges(String title) {
        check = new Check(title);
        sections = sections();
        for (int promise = 0; promise <= PROMISES; promise++) {
            tested.add(new ArrayList<>());
        }
    }

    private static String[] sections() {
        String all;
        try {
            all = Files.readString(Path.of("../shared/DOC.md"));
        } catch (IOException e) {
            throw new IllegalStateException("the document is not at ../shared/DOC.md", e);
        }
        String[] parts = all.substring(0, all.indexOf("## Not promised")).split("## Promise ");
        for (int k = 0; k < parts.length; k++) {
            parts[k] = parts[k].replace("`", "").replaceAll("\\s+", " ");
        }
        return parts;
    }

    /** The words stand in the promise, or ahead of all promises, where what it means is told. */
    void edge(int promise, String words, Runnable test) {
        check.about("promise " + promise + ": " + words);
        check.due("the document says that", true, sections[promise].contains(words) || sections[0].contains(words));
        tested.get(promise).add(words);
        int before = check.asked();
        test.run();
        check.due("a call is made for it", true, check.asked() > before);
        check.about("");
    }

    void finish(int... promises) {
        for (int promise : promises) {
            check.due("promise " + promise + ": refusals without a test", "", untested(promise));
        }
        check.finish();
    }

    private String untested(int promise) {
        int from = sections[promise].indexOf("Throws ");
        if (from < 0) {
            return "";
        }
        String rest = sections[promise].substring(from);
        List<String> longestFirst = new ArrayList<>(tested.get(promise));
        longestFirst.sort(Comparator.comparingInt(String::length).reversed());
        for (String words : longestFirst) {
            rest = rest.replace(words, "");
        }
        return rest.replaceAll("Throws \\w+ if|\\bor\\b|,", "").trim();
    }
}
