import java.io.IOException;
import java.lang.reflect.Field;
import java.lang.reflect.Method;
import java.lang.reflect.Modifier;
import java.nio.file.Files;
import java.nio.file.Path;
import java.util.ArrayList;
import java.util.HashSet;
import java.util.List;
import java.util.Set;
import java.util.regex.Matcher;
import java.util.regex.Pattern;

/**
 * Rules of ../shared/LANGUAGE.md that can be seen from the class and its text. It is a guard
 * against slips, not a whole reading of those rules.
 */
public final class LanguageTest {
    private static final Path SOURCE = Path.of("src/main/java/ChannelRules.java");
    private static final int MOST_CLASSES = 12;
    private static final int MOST_FIELDS = 20;
    private static final int MOST_PARAMETERS = 7;
    private static final int MOST_METHOD_LINES = 60;
    private static final int MOST_LINE = 100;

    /** What the program does without, though a rule may allow some of it. */
    private static final String[] WITHOUT = {
        "import", "package", "catch", "try", "finally", "assert", "synchronized", "native",
        "protected", "volatile", "transient", "interface", "extends", "implements", "instanceof",
        "double", "float", "Object", "System", "Random", "Thread", "Class", "->", "::",
    };
    private static final Set<String> LIBRARY = Set.of("Math.min", "Math.max", "Math.floorMod");
    private static final Set<String> THROWN = Set.of("IllegalArgumentException",
        "IllegalStateException", "IndexOutOfBoundsException");
    private static final Set<String> CONSTANTS = Set.of("int", "long", "boolean", "char", "String",
        "int[]", "long[]", "char[]", "byte[]");

    private static int wrong = 0;

    private LanguageTest() {
    }

    public static void main(String[] args) throws IOException {
        List<Class<?>> classes = new ArrayList<>(List.of(ChannelRules.class.getDeclaredClasses()));
        for (Class<?> c : classes) {
            isStaticAndHidden(c);
        }
        classes.add(ChannelRules.class);
        due("rule 11: classes", classes.size() <= MOST_CLASSES);
        Set<String> open = openNames();
        for (Class<?> c : classes) {
            hasGoodMethods(c, open);
            hasGoodFields(c);
        }
        List<String> lines = Files.readAllLines(SOURCE);
        usesListedWords(withoutComments(lines));
        hasShortMethods(lines);
        if (wrong != 0) {
            System.exit(1);
        }
        System.out.println("the rules that are looked at hold");
    }

    private static void due(String what, boolean holds) {
        if (!holds) {
            wrong++;
            System.out.println("does not hold: " + what);
        }
    }

    private static void isStaticAndHidden(Class<?> c) {
        int is = c.getModifiers();
        due("rule 1: static, " + c, Modifier.isStatic(is));
        due("rule 1: hidden, " + c, !Modifier.isPublic(is) && !Modifier.isProtected(is));
    }

    private static Set<String> openNames() {
        Set<String> names = new HashSet<>();
        for (Method m : ChannelRules.class.getDeclaredMethods()) {
            if (Modifier.isPublic(m.getModifiers())) {
                names.add(m.getName());
            }
        }
        return names;
    }

    private static void hasGoodMethods(Class<?> c, Set<String> open) {
        for (Method m : c.getDeclaredMethods()) {
            boolean isOpen = Modifier.isPublic(m.getModifiers());
            due("rule 1: a name of its own, " + m, isOpen || !open.contains(m.getName()));
            due("rule 11: parameters, " + m, m.getParameterCount() <= MOST_PARAMETERS);
        }
    }

    private static void hasGoodFields(Class<?> c) {
        int fields = 0;
        for (Field f : c.getDeclaredFields()) {
            if (!Modifier.isStatic(f.getModifiers())) {
                fields++;
                continue;
            }
            due("rule 5: final, " + f, Modifier.isFinal(f.getModifiers()));
            due("rule 5: its type, " + f, CONSTANTS.contains(f.getType().getSimpleName()));
        }
        due("rule 11: fields, " + c, fields <= MOST_FIELDS);
    }

    private static String withoutComments(List<String> lines) {
        return String.join("\n", lines)
            .replaceAll("(?s)/\\*.*?\\*/", "")
            .replaceAll("//[^\n]*", "")
            .replaceAll("\"[^\"\n]*\"", "\"\"");
    }

    private static void usesListedWords(String text) {
        for (String word : WITHOUT) {
            String edge = Character.isLetter(word.charAt(0)) ? "\\b" : "";
            boolean is = Pattern.compile(edge + word + edge).matcher(text).find();
            due("rules 2 to 6: without " + word, !is);
        }
        Matcher used = Pattern.compile("\\b[A-Z]\\w*[a-z]\\w*\\.\\w+").matcher(text);
        while (used.find()) {
            due("rule 4: " + used.group(), LIBRARY.contains(used.group()));
        }
        Matcher thrown = Pattern.compile("\\bthrow (?:new (\\w+)\\(\"\"\\);)?").matcher(text);
        while (thrown.find()) {
            String name = thrown.group(1);
            due("rule 6: throw new " + name, name != null && THROWN.contains(name));
        }
    }

    /** Methods stand four columns in, those of a class inside eight. */
    private static void hasShortMethods(List<String> lines) {
        String indent = "    ";
        int begin = 0;
        int methods = 0;
        for (int i = 0; i < lines.size(); i++) {
            String line = lines.get(i);
            due("a line of at most 100 characters, " + (i + 1), line.length() <= MOST_LINE);
            if (line.matches(" {4}private static final class .*")) {
                indent = "        ";
            } else if (line.equals("    }") && indent.length() > 4) {
                indent = "    ";
            } else if (line.matches(indent + "\\w.*\\(.*") && !line.endsWith(";")) {
                begin = i;
                methods++;
            } else if (line.equals(indent + "}")) {
                due("rule 11: short, line " + (begin + 1), i - begin < MOST_METHOD_LINES);
            }
        }
        due("methods were seen", methods > ChannelRules.class.getDeclaredMethods().length);
    }
}
