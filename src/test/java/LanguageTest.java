import java.io.IOException;
import java.lang.reflect.Field;
import java.lang.reflect.Method;
import java.lang.reflect.Modifier;
import java.nio.charset.StandardCharsets;
import java.nio.file.Files;
import java.nio.file.Path;
import java.util.ArrayList;
import java.util.HashSet;
import java.util.List;
import java.util.Map;
import java.util.Set;
import java.util.TreeMap;
import java.util.regex.Matcher;
import java.util.regex.Pattern;

/**
 * The rules of LANGUAGE.md that can be seen in the text of the class or in its compiled form. Run where src is.
 * The rules are held more narrowly than they are written, where the class has no need of more: no throw, no import.
 */
public final class LanguageTest {
    private static final Path SOURCE = Path.of("src/main/java/ClockCrossings.java");
    private static final int MOST_LINES = 60, MOST_PARAMETERS = 7, MOST_CLASSES = 12, MOST_FIELDS = 20, MOST_DEEP = 8;
    private static final Pattern HEAD = Pattern.compile("( {4}| {8})(?:public |private )(?:static )?(?:[\\w\\[\\]]+ )?(\\w+)\\((.*)\\) \\{");
    private static final Pattern CALLED = Pattern.compile("(?<!new )\\b([a-z]\\w*)\\(");
    private static final Pattern LIBRARY = Pattern.compile("\\b(?!ClockCrossings\\b)[A-Z][a-z]\\w*\\.(\\w+)\\(");
    private static final Set<String> STATEMENTS = Set.of("if", "for", "while", "switch", "return");
    private static final Set<String> OF_THE_LIBRARY = Set.of("length", "charAt", "isEmpty", "clone", "arraycopy", "bitCount", "min");
    private static final Set<String> CALLED_BY_CLASS = Set.of("Integer.bitCount(", "Math.min(", "System.arraycopy(");
    private static final Set<String> FACE = Set.of("type", "clear", "tells", "needs", "wishes", "ticks", "undo", "node", "register",
            "crossing", "kinds", "join", "risk", "period", "wish", "when", "keep", "back", "count");

    private static int wrong = 0;

    private LanguageTest() {
    }

    public static void main(String[] args) throws IOException {
        String written = new String(Files.readAllBytes(SOURCE), StandardCharsets.ISO_8859_1);
        due("a letter outside of 1 to 127", written.chars().allMatch(c -> c >= 1 && c <= 127));
        String code = bare(written);
        words(code);
        Map<String, String> bodies = methods(code);
        calls(bodies);
        classes();
        System.out.println("LANGUAGE.md: " + bodies.size() + " methods, " + wrong + " wrong");
        if (wrong != 0) {
            System.exit(1);
        }
    }

    private static void due(String what, boolean holds) {
        if (!holds) {
            wrong++;
            System.out.println(what);
        }
    }

    /** Without comments, and with empty texts and letters; every line stays where it is. */
    private static String bare(String written) {
        String code = written.replaceAll("'(\\\\.|[^'\\\\])'", "'0'").replaceAll("\"(\\\\.|[^\"\\\\])*\"", "\"\"").replaceAll(" *//.*", "");
        Matcher comment = Pattern.compile("/\\*.*?\\*/", Pattern.DOTALL).matcher(code);
        return comment.replaceAll(found -> "\n".repeat((int) found.group().chars().filter(c -> c == '\n').count()));
    }

    /** Rules 2, 3, 5, 6, 10, 13. */
    private static void words(String code) {
        String[] forbidden = {"\\b(package|import|try|catch|throw|throws|finally|synchronized|assert|protected|volatile|native|double)\\b",
            "->", "::", "\\bstatic \\{", "\"\" *\\+|\\+ *\"\"", "\\bObject\\b", "\\binstanceof\\b", "@", "\\bthis\\b", "\\b(equals|hashCode|toString)\\b",
            "\\[\\]\\[\\]", "while \\(true\\)", "for \\([^;]*; *;"};
        for (String pattern : forbidden) {
            Matcher found = Pattern.compile(pattern).matcher(code);
            due("not to stand there: " + pattern, !found.find());
        }
        Matcher called = LIBRARY.matcher(code);
        while (called.find()) {
            due("no call of the library: " + called.group(), CALLED_BY_CLASS.contains(called.group()));
        }
    }

    /** All methods and constructors by their names, those of one name together; rules 11 and 12. */
    private static Map<String, String> methods(String code) {
        Map<String, String> bodies = new TreeMap<>();
        String[] lines = code.split("\n", -1);
        for (int i = 0; i < lines.length; i++) {
            Matcher head = HEAD.matcher(lines[i]);
            if (!head.matches()) {
                continue;
            }
            String name = head.group(2);
            int end = i;
            StringBuilder body = new StringBuilder();
            while (end + 1 < lines.length && !lines[end].equals(head.group(1) + "}")) {
                end++;
                body.append(lines[end]).append('\n');
            }
            due(name + " is too long", end - i < MOST_LINES);
            due(name + " has too many parameters", head.group(3).split(",").length <= MOST_PARAMETERS);
            boolean isConstructor = Character.isUpperCase(name.charAt(0));
            due(name + " makes something", isConstructor || body.indexOf("new ") < 0);
            bodies.merge(name, body.toString(), String::concat);
        }
        due("the methods of the face are found", bodies.keySet().containsAll(FACE));
        return bodies;
    }

    /** Rules 4, 8, 11: no call but of these methods and of the library, none of itself, none too deep. */
    private static void calls(Map<String, String> bodies) {
        int deepest = 0;
        for (String name : bodies.keySet()) {
            deepest = Math.max(deepest, depth(name, bodies, new ArrayList<>()));
        }
        due("calls go " + deepest + " deep", deepest <= MOST_DEEP);
    }

    private static int depth(String name, Map<String, String> bodies, List<String> open) {
        due("recursion: " + open + " " + name, !open.contains(name));
        if (open.contains(name)) {
            return 0;
        }
        List<String> opened = new ArrayList<>(open);
        opened.add(name);
        int deepest = 0;
        Matcher called = CALLED.matcher(bodies.get(name));
        Set<String> seen = new HashSet<>(STATEMENTS);
        while (called.find()) {
            String other = called.group(1);
            if (seen.add(other) && bodies.containsKey(other)) {
                deepest = Math.max(deepest, depth(other, bodies, opened));
            } else if (!bodies.containsKey(other) && !STATEMENTS.contains(other)) {
                due(name + " calls " + other, OF_THE_LIBRARY.contains(other));
            }
        }
        return 1 + deepest;
    }

    /** Rules 1, 2, 3, 5, 11, of the classes as they are compiled. */
    private static void classes() {
        List<Class<?>> all = new ArrayList<>(List.of(ClockCrossings.class.getDeclaredClasses()));
        for (Class<?> inside : all) {
            due("static: " + inside, Modifier.isStatic(inside.getModifiers()));
            due("not for all: " + inside, !Modifier.isPublic(inside.getModifiers()) && !Modifier.isProtected(inside.getModifiers()));
            for (Method method : inside.getDeclaredMethods()) {
                due("the name of a public one: " + method, !FACE.contains(method.getName()));
            }
        }
        all.add(ClockCrossings.class);
        due("too many classes", all.size() <= MOST_CLASSES);
        for (Class<?> each : all) {
            int fields = 0;
            for (Field field : each.getDeclaredFields()) {
                boolean isStatic = Modifier.isStatic(field.getModifiers());
                due("static, but not final: " + field, !isStatic || Modifier.isFinal(field.getModifiers()));
                due("a static of this type: " + field, !isStatic || Set.of("int", "int[]").contains(field.getType().getSimpleName()));
                fields += isStatic ? 0 : 1;
            }
            due("too many fields: " + each, fields <= MOST_FIELDS);
        }
    }
}
