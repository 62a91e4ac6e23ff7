import java.io.IOException;
import java.nio.file.Files;
import java.nio.file.Path;
import java.util.ArrayList;
import java.util.Comparator;
import java.util.LinkedHashMap;
import java.util.List;
import java.util.Map;

/**
 * Tests that stand for one sentence of the document each, or for the part of it that names a boundary
 * case. A test that fails tells its sentence; and the sentences are compared with the document, so
 * that none is misquoted and none is left out.
 */
final class Sentences {
    private static final Map<String, List<String>> QUOTES = new LinkedHashMap<>();
    private static int tests = 0;

    private Sentences() {
    }

    /** Runs the test of a sentence that stands in a part of the document: a heading without its title. */
    static void test(String part, String sentence, Runnable test) {
        quote(part, sentence);
        tests++;
        int doneBefore = Checks.done();
        int wrongBefore = Checks.wrong();
        try {
            test.run();
        } catch (RuntimeException e) {
            Checks.due("the test throws", e.toString(), "nothing");
        }
        Checks.due("whether the test checks anything", Checks.done() > doneBefore, true);
        if (Checks.wrong() > wrongBefore) {
            System.out.println("BROKEN  " + part + ": " + sentence);
        }
    }

    /** Tells a sentence that names no boundary case. */
    static void free(String part, String sentence) {
        quote(part, sentence);
    }

    private static void quote(String part, String sentence) {
        QUOTES.computeIfAbsent(part, p -> new ArrayList<>()).add(sentence);
    }

    /** Checks that the sentences are those of the document, all of them. */
    static void dueInDocument(Path document) {
        System.out.println(tests + " sentences");
        if (!Files.exists(document)) {
            System.out.println("there is no " + document + " to compare them with");
            return;
        }
        Map<String, String> parts = partsOf(document);
        for (String part : QUOTES.keySet()) {
            Checks.due("whether the document has a part " + part, parts.containsKey(part), true);
        }
        for (String part : parts.keySet()) {
            String left = withoutQuotes(part, parts.get(part));
            Checks.due("sentences without a test in " + part, left.matches("[^A-Za-z0-9]*") ? "" : left, "");
        }
    }

    private static Map<String, String> partsOf(Path document) {
        Map<String, String> parts = new LinkedHashMap<>();
        String part = "";
        for (String line : linesOf(document)) {
            boolean isHeading = line.startsWith("## ") || line.startsWith("== ");
            if (isHeading) {
                part = line.substring(3).replaceAll("^(Promise [0-9]+):.*", "$1");
            }
            boolean isText = !isHeading && !line.startsWith("```") && !line.startsWith("# ");
            // the public face has a test of its own
            if (isText && !part.equals("The public face") && !part.equals("Not promised")) {
                // a promise begins with what the call looks like
                String words = line.replaceAll("^`[^`]*[(][^`]*`: ", "");
                parts.merge(part, words, (ahead, more) -> (ahead + " " + more).replaceAll("\\s+", " "));
            }
        }
        return parts;
    }

    private static List<String> linesOf(Path document) {
        try {
            return Files.readAllLines(document);
        } catch (IOException e) {
            throw new IllegalStateException(e);
        }
    }

    private static String withoutQuotes(String part, String text) {
        // the longest ones first: a short one may stand within a longer one
        List<String> quotes = new ArrayList<>(QUOTES.getOrDefault(part, List.of()));
        quotes.sort(Comparator.comparingInt(String::length).reversed());
        String left = text;
        for (String quote : quotes) {
            int at = left.indexOf(quote);
            Checks.due("whether " + part + " says: " + quote, at >= 0, true);
            if (at >= 0) {
                left = left.substring(0, at) + "|" + left.substring(at + quote.length());
            }
        }
        return left;
    }
}
