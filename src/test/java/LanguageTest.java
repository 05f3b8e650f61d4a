import java.io.IOException;
import java.lang.reflect.Constructor;
import java.lang.reflect.Field;
import java.lang.reflect.Method;
import java.lang.reflect.Modifier;
import java.nio.file.Files;
import java.nio.file.Path;
import java.util.Arrays;
import java.util.HashSet;
import java.util.Map;
import java.util.Set;
import java.util.TreeMap;
import java.util.TreeSet;
import java.util.regex.Matcher;
import java.util.regex.Pattern;

/** What of ../shared/LANGUAGE.md can be seen from outside: the face, the classes inside, and words that may not stand. */
public final class LanguageTest {
    private static final Path PROGRAM = Path.of("src/main/java/MileRoad.java");
    private static final Path DOC = Path.of("../shared/DOC.md");
    private static final String[] NEVER = {
        "throw", "throws", "try", "catch", "finally", "synchronized", "assert", "package", "protected",
        "native", "volatile", "transient", "strictfp", "hashCode", "Object", "Exception"};
    private static final int MOST_LINES = 60;
    private static final int MOST_FIELDS = 20;
    private static final int MOST_CLASSES = 12;
    private static final int MOST_PARAMETERS = 7;

    private static int wrong = 0;

    private static void rule(int number, String what, boolean holds) {
        if (!holds) {
            wrong++;
            System.out.println("rule " + number + ": " + what);
        }
    }

    public static void main(String[] args) throws IOException, IllegalAccessException {
        String code = withoutCommentsAndTexts(Files.readString(PROGRAM));
        String doc = Files.readString(DOC);
        String face = doc.substring(doc.indexOf("## The public face"), doc.indexOf("## Terms"));
        theFace(callsOf(face));
        theConstants(constantsOf(face));
        theClassesInside(callsOf(face));
        wordsThatMayNotStand(code);
        lengthsOfMethods(code);
        System.out.println("LanguageTest: " + wrong + " rules are broken");
        if (wrong != 0) {
            System.exit(1);
        }
    }

    private static String nameOf(Method method) {
        String types = Arrays.toString(method.getParameterTypes()).replaceAll("[\\[\\] ]", "");
        return method.getName() + "(" + types + ")";
    }

    private static Set<String> callsOf(String face) {
        Set<String> calls = new TreeSet<>();
        Matcher call = Pattern.compile("public int (\\w+)\\(([^)]*)\\);").matcher(face);
        while (call.find()) {
            calls.add(call.group(1) + "(" + call.group(2).replaceAll("int \\w+", "int").replace(" ", "") + ")");
        }
        return calls;
    }

    private static Map<String, Integer> constantsOf(String face) {
        Map<String, Integer> constants = new TreeMap<>();
        Matcher constant = Pattern.compile("(\\w+) = (-?\\d+)").matcher(face);
        while (constant.find()) {
            constants.put(constant.group(1), Integer.valueOf(constant.group(2)));
        }
        return constants;
    }

    private static void theFace(Set<String> due) {
        Set<String> face = new TreeSet<>();
        for (Method method : MileRoad.class.getDeclaredMethods()) {
            int signs = method.getModifiers();
            if (Modifier.isPublic(signs) && !Modifier.isStatic(signs) && method.getReturnType() == int.class) {
                face.add(nameOf(method));
            } else {
                rule(1, nameOf(method) + " is not private", Modifier.isPrivate(signs));
            }
        }
        rule(1, "the face is " + face, face.equals(due) && !due.isEmpty());
        Constructor<?>[] made = MileRoad.class.getDeclaredConstructors();
        rule(1, "one public constructor of nothing",
            made.length == 1 && made[0].getParameterCount() == 0 && Modifier.isPublic(made[0].getModifiers()));
        int signs = MileRoad.class.getModifiers();
        rule(1, "public and final", Modifier.isPublic(signs) && Modifier.isFinal(signs));
    }

    private static void theConstants(Map<String, Integer> due) throws IllegalAccessException {
        Map<String, Integer> constants = new TreeMap<>();
        for (Field field : MileRoad.class.getDeclaredFields()) {
            int signs = field.getModifiers();
            if (Modifier.isPublic(signs) && Modifier.isStatic(signs) && Modifier.isFinal(signs)) {
                constants.put(field.getName(), field.getInt(null));
            } else {
                rule(1, field.getName() + " is not private", Modifier.isPrivate(signs));
            }
        }
        rule(1, "the constants are " + constants, constants.equals(due) && !due.isEmpty());
    }

    private static void theClassesInside(Set<String> calls) {
        Set<String> face = new HashSet<>();
        for (String method : calls) {
            face.add(method.substring(0, method.indexOf('(')));
        }
        Class<?>[] inside = MileRoad.class.getDeclaredClasses();
        rule(11, "some twelve classes", inside.length < MOST_CLASSES);
        fieldsAndParameters(MileRoad.class);
        for (Class<?> one : inside) {
            int signs = one.getModifiers();
            rule(1, one + " is not static", Modifier.isStatic(signs));
            rule(1, one + " is not hidden", !Modifier.isPublic(signs) && !Modifier.isProtected(signs));
            fieldsAndParameters(one);
            for (Method method : one.getDeclaredMethods()) {
                rule(1, one + " has a " + method.getName(), !face.contains(method.getName()));
            }
        }
    }

    private static void fieldsAndParameters(Class<?> one) {
        int fields = 0;
        for (Field field : one.getDeclaredFields()) {
            boolean isStatic = Modifier.isStatic(field.getModifiers());
            fields += isStatic ? 0 : 1;
            rule(5, one + "." + field.getName(), !isStatic || Modifier.isFinal(field.getModifiers()));
        }
        rule(11, one + " has " + fields + " fields", fields <= MOST_FIELDS);
        for (Method method : one.getDeclaredMethods()) {
            rule(11, nameOf(method), method.getParameterCount() <= MOST_PARAMETERS);
        }
    }

    private static void wordsThatMayNotStand(String code) {
        for (String word : NEVER) {
            rule(6, "the word " + word, !Pattern.compile("\\b" + word + "\\b").matcher(code).find());
        }
        rule(2, "a lambda", !code.contains("->"));
        rule(2, "a method reference", !code.contains("::"));
        rule(2, "an anonymous class", !Pattern.compile("new \\w+\\([^;]*\\)\\s*\\{").matcher(code).find());
        rule(5, "a static block", !Pattern.compile("static\\s*\\{").matcher(code).find());
        Matcher imports = Pattern.compile("\\bimport\\b[^;]*;").matcher(code);
        while (imports.find()) {
            rule(4, imports.group(), imports.group().matches("import java\\.util\\.(ArrayList|Arrays|Iterator|List);"));
        }
        Matcher library = Pattern.compile("\\b(Integer|Long|Math|System|Arrays|Character)\\.(\\w+)").matcher(code);
        while (library.find()) {
            rule(4, library.group(), isListed(library.group(1), library.group(2)));
        }
    }

    private static boolean isListed(String name, String function) {
        switch (name) {
            case "System":
                return function.equals("arraycopy");
            case "Arrays":
                return Set.of("copyOf", "copyOfRange", "fill").contains(function);
            case "Character":
                return false;
            default:
                return !function.endsWith("Exact");
        }
    }

    private static void lengthsOfMethods(String code) {
        String[] lines = code.split("\n");
        Pattern begin = Pattern.compile("^( {4}| {8})\\S.*\\) \\{$");
        for (int i = 0; i < lines.length; i++) {
            Matcher m = begin.matcher(lines[i]);
            if (m.matches()) {
                int end = i;
                while (end < lines.length && !lines[end].equals(m.group(1) + "}")) {
                    end++;
                }
                rule(11, "too long: " + lines[i].trim(), end - i < MOST_LINES);
            }
        }
    }

    private static String withoutCommentsAndTexts(String code) {
        return code.replaceAll("(?s)/\\*.*?\\*/", " ").replaceAll("//[^\n]*", " ")
            .replaceAll("\"[^\"\n]*\"", "T").replaceAll("'[^'\n]+'", "L");
    }
}
