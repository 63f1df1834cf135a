import java.lang.reflect.Method;
import java.util.ArrayList;
import java.util.List;
import java.util.regex.Pattern;

/** Each sentence of the document that names a boundary case has a test that says it. */
public final class EverySentenceTest {
    private static final Pattern BOUNDARY = Pattern.compile("\\d|\\bif\\b|\\bup to\\b|\\bnone\\b|\\bthen\\b|\\bempty\\b|\\blowest\\b");
    private static final Document document = new Document();
    private static final Check check = new Check();

    private static List<Says> allSays() {
        List<Says> all = new ArrayList<>();
        for (Class<?> type : Boundaries.TESTS) {
            for (Method test : Boundaries.testsOf(type)) {
                all.add(test.getAnnotation(Says.class));
            }
        }
        return all;
    }

    /** What a promise says of an argument, of an exception, or of an answer with a boundary. */
    private static boolean namesBoundary(String line) {
        return line.startsWith("- ") || line.startsWith("Throws ") || line.startsWith("Returns ") && BOUNDARY.matcher(line).find();
    }

    private static void promises(List<Says> all) {
        for (int promise = 1; promise <= Document.PROMISES; promise++) {
            int number = promise;
            for (String line : document.linesOf("Promise " + promise)) {
                if (namesBoundary(line)) {
                    check.yes("promise " + promise + ": a test for \"" + line + "\"",
                        all.stream().anyMatch(s -> s.promise() == number && line.contains(s.sentence())));
                }
            }
            check.yes("promise " + promise + " has a section", !document.linesOf("Promise " + promise).isEmpty());
        }
    }

    /** A sentence of the terms goes to the next full stop; each of its parts up to the next ";" or ":" is looked at. */
    private static void terms(List<Says> all) {
        for (String line : document.linesOf("Terms")) {
            if (line.startsWith("Ahead of the calls") || line.startsWith("#") || !line.contains(".")) {
                continue;
            }
            int from = 0;
            for (String part : line.split("(?<=[.;:)]) (?![^(]*\\))")) {
                int start = line.indexOf(part, from);
                int end = start + part.length();
                from = end;
                check.yes("terms: a test for \"" + part + "\"", all.stream().anyMatch(s -> covers(line, s.sentence(), start, end)));
            }
        }
    }

    private static boolean covers(String line, String sentence, int start, int end) {
        int at = line.indexOf(sentence);
        while (at >= 0) {
            if (Math.min(at + sentence.length(), end) - Math.max(at, start) > 2) {
                return true;
            }
            at = line.indexOf(sentence, at + 1);
        }
        return false;
    }

    public static void main(String[] args) {
        List<Says> all = allSays();
        promises(all);
        terms(all);
        check.end();
    }
}
