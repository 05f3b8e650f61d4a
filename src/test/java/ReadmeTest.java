import java.io.IOException;
import java.lang.reflect.Field;
import java.lang.reflect.Method;
import java.lang.reflect.Modifier;
import java.nio.file.Files;
import java.nio.file.Path;
import java.util.List;
import java.util.Map;
import java.util.TreeSet;
import java.util.regex.MatchResult;
import java.util.regex.Matcher;
import java.util.regex.Pattern;
import java.util.stream.Stream;

/** README.md: its example answers what it says, and it leaves out no call, no refusal and no test. */
public final class ReadmeTest {
    private static final Path README = Path.of("README.md");
    private static final Path TESTS = Path.of("src/test/java");
    private static final Pattern TOLD = Pattern.compile("(x\\.\\w+\\([^;]*\\)); *// (-?\\d+)\\b.*");

    private static final Due DUE = new Due();

    /** Takes that one class for its own; all others are those of the tests. */
    private static final class Example extends ClassLoader {
        private final byte[] bytes;

        Example(byte[] bytes) {
            super(ReadmeTest.class.getClassLoader());
            this.bytes = bytes;
        }

        @Override
        protected Class<?> findClass(String name) throws ClassNotFoundException {
            if (!name.equals("Example")) {
                throw new ClassNotFoundException(name);
            }
            return defineClass(name, bytes, 0, bytes.length);
        }
    }

    public static void main(String[] args) throws IOException, ReflectiveOperationException {
        String readme = Files.readString(README);
        theExample(between(readme, "```java\n", "\n```"));
        theCalls(between(readme, "### The calls", "###"));
        theRefusals(between(readme, "### NONE and the refusals", "###"));
        theTests(between(readme, "## How to run its tests", "\nA test of a sentence"));
        DUE.end("ReadmeTest");
    }

    private static void theExample(String example) throws ReflectiveOperationException {
        List<MatchResult> told = TOLD.matcher(example).results().toList();
        List<?> answers = answersOf(example);
        DUE.is("how many calls of the example tell their answers", told.size(), answers.size());
        for (int i = 0; i < Math.min(told.size(), answers.size()); i++) {
            DUE.is("the example's " + told.get(i).group(1), Integer.parseInt(told.get(i).group(2)),
                (Integer) answers.get(i));
        }
        for (String call : namesOfCalls()) {
            DUE.is("the example shows " + call + "()", 1, example.contains("x." + call + "(") ? 1 : 0);
        }
    }

    /** Each call behind which an answer is told writes its answer down when it is made. */
    private static List<?> answersOf(String shown) throws ReflectiveOperationException {
        String example = TOLD.matcher(shown).replaceAll("ANSWERS.add($1);").replaceFirst("\\{", "{ "
            + "public static final java.util.List<Integer> ANSWERS = new java.util.ArrayList<>();");
        Map<String, byte[]> classes = Compiled.of("Example", example);
        Class<?> made = new Example(classes.get("Example")).loadClass("Example");
        made.getMethod("main", String[].class).invoke(null, (Object) new String[0]);
        return (List<?>) made.getField("ANSWERS").get(null);
    }

    private static TreeSet<String> namesOfCalls() {
        TreeSet<String> names = new TreeSet<>();
        for (Method method : MileRoad.class.getDeclaredMethods()) {
            if (Modifier.isPublic(method.getModifiers())) {
                names.add(method.getName());
            }
        }
        return names;
    }

    private static void theCalls(String part) {
        TreeSet<String> told = new TreeSet<>();
        Matcher rows = Pattern.compile("(?m)^\\| (`[^|]*`) \\|").matcher(part);
        while (rows.find()) {
            told.addAll(List.of(rows.group(1).replace("`", "").split(" ")));
        }
        same("calls", namesOfCalls(), told);
    }

    private static void theRefusals(String part) throws IllegalAccessException {
        TreeSet<String> told = new TreeSet<>();
        Matcher rows = Pattern.compile("(?m)^\\| `(\\w+)` \\| (-\\d) \\|").matcher(part);
        while (rows.find()) {
            told.add(rows.group(1) + " " + rows.group(2));
        }
        TreeSet<String> constants = new TreeSet<>();
        for (Field field : MileRoad.class.getDeclaredFields()) {
            if (Modifier.isPublic(field.getModifiers())) {
                constants.add(field.getName() + " " + field.getInt(null));
            }
        }
        same("refusals", constants, told);
    }

    private static void theTests(String part) throws IOException {
        TreeSet<String> told = new TreeSet<>();
        Matcher rows = Pattern.compile("(?m)^\\| (\\w+Test) \\|").matcher(part);
        while (rows.find()) {
            told.add(rows.group(1));
        }
        TreeSet<String> tests = new TreeSet<>();
        try (Stream<Path> files = Files.list(TESTS)) {
            files.map(file -> file.getFileName().toString()).filter(name -> name.endsWith("Test.java"))
                .forEach(name -> tests.add(name.replace(".java", "")));
        }
        same("tests", tests, told);
    }

    private static void same(String what, TreeSet<String> due, TreeSet<String> told) {
        TreeSet<String> missing = new TreeSet<>(due);
        missing.removeAll(told);
        TreeSet<String> strange = new TreeSet<>(told);
        strange.removeAll(due);
        DUE.is("the number of " + what + " that README.md leaves out, " + missing + ",", 0, missing.size());
        DUE.is("the number of " + what + " in README.md that are none, " + strange + ",", 0, strange.size());
    }

    private static String between(String text, String begin, String end) {
        int from = text.indexOf(begin) + begin.length();
        int to = text.indexOf(end, from);
        return text.substring(from, to < 0 ? text.length() : to);
    }
}
