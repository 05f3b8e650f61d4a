import java.io.IOException;
import java.io.InputStream;
import java.lang.reflect.Method;
import java.nio.file.Files;
import java.nio.file.Path;
import java.util.ArrayList;
import java.util.HashMap;
import java.util.List;
import java.util.Map;
import java.util.Set;
import java.util.TreeSet;

/**
 * Each test of a sentence fails where that sentence is broken. Not the program is broken here, so that it can be
 * written anew at any time, but the Model: it takes the program's place, with one break of breaks.txt at a time.
 */
public final class BreaksTest {
    private static final Path MODEL = Path.of("src/test/java/Model.java");
    private static final Path BREAKS = Path.of("src/test/breaks.txt");

    /** Behind the first place of in, the first was becomes is; then the tests fail. */
    private record Break(String name, String in, String was, String is, Set<String> fails) {
        /** The broken code; null, if that place is none. */
        String breaking(String code) {
            int from = code.indexOf(in);
            int place = from < 0 ? -1 : code.indexOf(was, from);
            return place < 0 ? null : code.substring(0, place) + is + code.substring(place + was.length());
        }
    }

    public static void main(String[] args) throws IOException {
        String model = Files.readString(MODEL).replace("final class Model", "public final class MileRoad");
        List<Break> breaks = breaksOf(Files.readString(BREAKS));
        List<String> faults = new ArrayList<>(notFailing(breaks));
        failing(model, allTests()).forEach(test -> faults.add(test + " fails where nothing is broken"));
        breaks.parallelStream().map(one -> faultsOf(one, model)).toList().forEach(faults::addAll);
        faults.forEach(System.out::println);
        System.out.println("BreaksTest: " + breaks.size() + " breaks, " + faults.size() + " faults");
        if (!faults.isEmpty()) {
            System.exit(1);
        }
    }

    /** Parts with empty lines between, each line begins with what it is; an "in" is for all breaks behind it. */
    private static List<Break> breaksOf(String text) {
        List<Break> breaks = new ArrayList<>();
        String in = "";
        for (String part : text.strip().split("\n\n")) {
            Map<String, String> lines = new HashMap<>();
            for (String line : part.split("\n")) {
                String[] words = (line + " ").split(" ", 2);
                lines.put(words[0], words[1].strip());
            }
            in = lines.getOrDefault("in", in);
            if (lines.containsKey("break")) {
                breaks.add(new Break(lines.get("break"), in, lines.get("was"), lines.get("is"),
                    new TreeSet<>(List.of(lines.get("fails").split(" ")))));
            }
        }
        return breaks;
    }

    private static Set<String> allTests() {
        Set<String> names = new TreeSet<>();
        for (Class<?> tests : SentencesTest.TESTS) {
            Due.testsOf(tests).forEach(test -> names.add(test.getName()));
        }
        return names;
    }

    private static List<String> notFailing(List<Break> breaks) {
        Set<String> rest = allTests();
        breaks.forEach(one -> rest.removeAll(one.fails));
        return rest.stream().map(test -> "no break is for " + test).toList();
    }

    private static List<String> faultsOf(Break one, String model) {
        String broken = one.breaking(model);
        if (broken == null) {
            return List.of("the place of this break isn't found: " + one.name);
        }
        try {
            Set<String> rest = new TreeSet<>(one.fails);
            rest.removeAll(failing(broken, one.fails));
            return rest.stream().map(test -> test + " does not fail by this break: " + one.name).toList();
        } catch (IllegalArgumentException e) {
            return List.of("this break does not compile: " + one.name);
        }
    }

    /** Which of the tests fail with that code in the program's place. */
    private static Set<String> failing(String code, Set<String> tests) {
        Set<String> failing = new TreeSet<>();
        try {
            ClassLoader loader = new Replaced(Compiled.of("MileRoad", code));
            Class<?> due = loader.loadClass("Due");
            Method testsOf = due.getDeclaredMethod("testsOf", Class.class);
            Method faultsOf = due.getDeclaredMethod("faultsOf", Method.class);
            testsOf.setAccessible(true);
            faultsOf.setAccessible(true);
            for (Class<?> one : SentencesTest.TESTS) {
                for (Object test : (List<?>) testsOf.invoke(null, loader.loadClass(one.getName()))) {
                    String name = ((Method) test).getName();
                    if (tests.contains(name) && !((List<?>) faultsOf.invoke(null, test)).isEmpty()) {
                        failing.add(name);
                    }
                }
            }
        } catch (ReflectiveOperationException e) {
            throw new IllegalStateException(e);
        }
        return failing;
    }

    /** Takes those classes for the program's and loads the tests anew with them. */
    private static final class Replaced extends ClassLoader {
        private final Map<String, byte[]> classes;

        Replaced(Map<String, byte[]> classes) {
            super(ClassLoader.getPlatformClassLoader());
            this.classes = classes;
        }

        @Override
        protected Class<?> findClass(String name) throws ClassNotFoundException {
            try (InputStream test = BreaksTest.class.getResourceAsStream(name + ".class")) {
                if (!classes.containsKey(name) && test == null) {
                    throw new ClassNotFoundException(name);
                }
                byte[] bytes = classes.containsKey(name) ? classes.get(name) : test.readAllBytes();
                return defineClass(name, bytes, 0, bytes.length);
            } catch (IOException e) {
                throw new ClassNotFoundException(name, e);
            }
        }
    }
}
