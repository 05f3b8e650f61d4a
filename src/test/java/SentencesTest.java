import java.io.IOException;
import java.lang.reflect.Method;
import java.nio.file.Files;
import java.nio.file.Path;
import java.util.BitSet;
import java.util.HashMap;
import java.util.HashSet;
import java.util.Map;
import java.util.Set;
import java.util.regex.Matcher;
import java.util.regex.Pattern;

/** Each test says words that stand in ../shared/DOC.md, and no word of its promises and its terms is without a test. */
public final class SentencesTest {
    static final Class<?>[] TESTS = {NewTest.class, FaultTest.class, RoadTest.class, WalkersTest.class, DoneTest.class,
        StonesTest.class, ForetoldTest.class, SeenTest.class};

    private static final int PROMISES = 26;

    /** A part of the document, and which of its letters a test says. */
    private static final class Part {
        final String words;
        final BitSet said = new BitSet();

        Part(String words) {
            this.words = words.replaceAll("\\s+", " ").trim();
        }

        boolean holds(String quote) {
            return words.contains(quote);
        }

        /** Whether the quote can be only one place. */
        boolean say(String quote) {
            int place = words.indexOf(quote);
            said.set(place, place + quote.length());
            return words.indexOf(quote, place + 1) < 0;
        }

        String notSaid() {
            StringBuilder rest = new StringBuilder();
            Matcher word = Pattern.compile("\\S*[A-Za-z0-9]\\S*").matcher(words);
            while (word.find()) {
                boolean all = true;
                for (int i = word.start(); i < word.end(); i++) {
                    all &= said.get(i) || !Character.isLetterOrDigit(words.charAt(i));
                }
                rest.append(all ? "" : word.group() + " ");
            }
            return rest.toString();
        }
    }

    private static int wrong = 0;

    public static void main(String[] args) throws IOException {
        String doc = Files.readString(Path.of("../shared/DOC.md"));
        Part terms = new Part(between(doc, "## Terms", "Ahead of the calls").replaceAll("```(text)?|={8} \\d", " "));
        Part rest = new Part(between(doc, "# MileRoad", "## Terms"));
        Map<Integer, Part> promises = new HashMap<>();
        for (int n = 1; n <= PROMISES; n++) {
            String section = between(doc, "## Promise " + n + ":", n == PROMISES ? "## Not promised" : "## Promise");
            promises.put(n, new Part(section.substring(section.indexOf('`')).replaceAll("`[^`]*\\)`:", " ")));
        }
        Set<String> names = new HashSet<>();
        for (Class<?> tests : TESTS) {
            for (Method test : Due.testsOf(tests)) {
                check(test.getName() + " bears the name of another one", names.add(test.getName()));
                look(test, promises, terms, rest);
            }
        }
        promises.forEach((n, part) -> check("no test says, of promise " + n + ": " + part.notSaid(),
            part.notSaid().isEmpty()));
        check("no test says, of the terms: " + terms.notSaid(), terms.notSaid().isEmpty());
        System.out.println("SentencesTest: " + names.size() + " tests, " + wrong + " faults");
        if (wrong != 0) {
            System.exit(1);
        }
    }

    private static void look(Method test, Map<Integer, Part> promises, Part terms, Part rest) {
        Matcher name = Pattern.compile("p(\\d\\d)[A-Z].*").matcher(test.getName());
        Part promise = name.matches() ? promises.get(Integer.parseInt(name.group(1))) : null;
        check(test.getName() + " begins with no promise's number", promise != null);
        if (promise == null) {
            return;
        }
        for (String quote : test.getAnnotation(Says.class).value()) {
            Part part = promise.holds(quote) ? promise : terms.holds(quote) ? terms : rest;
            check(test.getName() + " says what stands nowhere: " + quote, part.holds(quote));
            if (part.holds(quote)) {
                check(test.getName() + " says what stands twice: " + quote, part.say(quote));
            }
        }
    }

    private static String between(String text, String begin, String end) {
        int from = text.indexOf(begin) + begin.length();
        int to = text.indexOf(end, from);
        return text.substring(from, to);
    }

    private static void check(String fault, boolean holds) {
        if (!holds) {
            wrong++;
            System.out.println(fault);
        }
    }
}
