import java.io.IOException;
import java.lang.reflect.Constructor;
import java.lang.reflect.Field;
import java.lang.reflect.Method;
import java.lang.reflect.Modifier;
import java.nio.file.Files;
import java.nio.file.Path;
import java.util.ArrayList;
import java.util.List;
import java.util.Set;
import java.util.TreeSet;
import java.util.regex.Matcher;
import java.util.regex.Pattern;

/** The public face, member by member, and what of LANGUAGE.md a machine can see. */
public final class LanguageTest {
    private static final Set<String> METHODS = Set.of(
            "int question(int, int, int, int, int)", "int set(int, int, int)", "int length(int)",
            "int share(int, int, int)", "int sure(int, int)", "int weight(int, int)",
            "int about(int, int)", "int fit()", "int begin()", "int next()",
            "int answer(int, boolean)", "int back()", "int end()", "int quit()", "int may(int)",
            "int gain(int, int)", "int done()", "int now(int)", "int asked(int, int)",
            "int reach(int)", "int count(int)");
    private static final Set<String> CONSTANTS = Set.of("int BAD = -1", "int STATE = -2",
            "int FULL = -3", "int NONE = -9");

    private static final List<String> FORBIDDEN = List.of("throw", "throws", "try", "catch",
            "synchronized", "assert", "import", "package", "->", "::", "Exact", "equals",
            "hashCode", "toString", "protected", "instanceof", "float", "double", "java");
    private static final Set<String> LIBRARY = Set.of("Integer.bitCount", "Long.compare",
            "Math.min", "System.arraycopy");

    private static final int MOST_CLASSES = 12, MOST_FIELDS = 20, MOST_PARAMETERS = 7;
    private static final int MOST_LINES = 60;

    private static final Check check = new Check("LanguageTest");

    public static void main(String[] args) throws IOException {
        face();
        faceOfDocument();
        classesInside();
        String source = Files.readString(Path.of(args[0]));
        String code = source.replaceAll("(?s)/\\*.*?\\*/", " ").replaceAll("//[^\n]*", " ");
        words(code);
        library(code);
        lengths(source);
        check.due("only plain signs", yes(source.chars().allMatch(s -> s == '\n' || s >= 32 && s < 127)), 1);
        check.finish();
    }

    private static int yes(boolean holds) {
        return holds ? 1 : 0;
    }

    private static void same(String what, Set<String> got, Set<String> want) {
        check.due(what + " are " + want + ", and not " + got + ": equal",
                yes(new TreeSet<>(got).equals(new TreeSet<>(want))), 1);
    }

    private static void face() {
        Class<?> c = QuestionLadder.class;
        check.due("public final", c.getModifiers(), Modifier.PUBLIC | Modifier.FINAL);
        check.due("of no other class", yes(c.getSuperclass() == Object.class), 1);
        check.due("of no interface", c.getInterfaces().length, 0);
        same("methods", openMethods(), METHODS);
        same("constants", openConstants(), CONSTANTS);
        Constructor<?>[] makers = c.getDeclaredConstructors();
        check.due("constructors", makers.length, 1);
        check.due("parameters of the constructor", makers[0].getParameterCount(), 0);
        check.due("the constructor is public", makers[0].getModifiers(), Modifier.PUBLIC);
    }

    private static Set<String> openMethods() {
        Set<String> open = new TreeSet<>();
        Set<String> names = new TreeSet<>();
        for (Method m : QuestionLadder.class.getDeclaredMethods()) {
            if (Modifier.isPrivate(m.getModifiers())) {
                check.due("private, and named otherwise: " + m.getName(), yes(isOfFace(m.getName())), 0);
                continue;
            }
            check.due("public: " + m.getName(), m.getModifiers(), Modifier.PUBLIC);
            check.due("told once: " + m.getName(), yes(names.add(m.getName())), 1);
            open.add(headOf(m));
        }
        return open;
    }

    private static boolean isOfFace(String name) {
        for (String method : METHODS) {
            if (method.startsWith("int " + name + "(")) {
                return true;
            }
        }
        return false;
    }

    private static String headOf(Method m) {
        List<String> types = new ArrayList<>();
        for (Class<?> type : m.getParameterTypes()) {
            types.add(type.getTypeName());
        }
        return m.getReturnType().getTypeName() + " " + m.getName() + "(" + String.join(", ", types) + ")";
    }

    private static Set<String> openConstants() {
        Set<String> open = new TreeSet<>();
        for (Field f : QuestionLadder.class.getDeclaredFields()) {
            if (!Modifier.isPrivate(f.getModifiers())) {
                check.due("a public constant: " + f.getName(), f.getModifiers(),
                        Modifier.PUBLIC | Modifier.STATIC | Modifier.FINAL);
                open.add(f.getType().getTypeName() + " " + f.getName() + " = " + valueOf(f));
            }
        }
        return open;
    }

    private static String valueOf(Field constant) {
        try {
            return String.valueOf(constant.get(null));
        } catch (IllegalAccessException e) {
            return "hidden";
        }
    }

    /** The code block of the document tells the same members as this test. */
    private static void faceOfDocument() throws IOException {
        String document = Files.readString(Path.of("../shared/DOC.md"));
        int from = document.indexOf("```java\n", document.indexOf("## The public face"));
        int to = document.indexOf("```\n", from + 1);
        Set<String> methods = new TreeSet<>();
        Set<String> constants = new TreeSet<>();
        int makers = 0;
        for (String line : document.substring(from, to).split("\n")) {
            Matcher method = Pattern.compile("    public (\\w+ \\w+\\(.*\\));").matcher(line);
            if (method.matches()) {
                methods.add(method.group(1).replaceAll("(int|boolean) \\w+(?=[,)])", "$1"));
            } else if (line.startsWith("    public static final int ")) {
                for (String one : line.replaceAll(".* int |;", "").split(", ")) {
                    constants.add("int " + one);
                }
            } else if (line.equals("    public QuestionLadder();")) {
                makers++;
            }
        }
        same("methods of the document", methods, METHODS);
        same("constants of the document", constants, CONSTANTS);
        check.due("constructors of the document", makers, 1);
    }

    private static void classesInside() {
        Class<?>[] inside = QuestionLadder.class.getDeclaredClasses();
        check.due("few classes", yes(inside.length + 1 <= MOST_CLASSES), 1);
        membersOf(QuestionLadder.class);
        for (Class<?> c : inside) {
            int hidden = c.getModifiers() & (Modifier.PUBLIC | Modifier.PROTECTED);
            check.due("not open: " + c.getName(), hidden, 0);
            check.due("static: " + c.getName(), c.getModifiers() & Modifier.STATIC, Modifier.STATIC);
            check.due("no classes in classes: " + c.getName(), c.getDeclaredClasses().length, 0);
            membersOf(c);
            for (Method m : c.getDeclaredMethods()) {
                check.due("a name of its own: " + m.getName(), yes(isOfFace(m.getName())), 0);
            }
        }
    }

    private static void membersOf(Class<?> c) {
        int fields = 0;
        for (Field f : c.getDeclaredFields()) {
            boolean isStatic = Modifier.isStatic(f.getModifiers());
            check.due("no static state: " + f.getName(),
                    yes(isStatic && !Modifier.isFinal(f.getModifiers())), 0);
            fields += yes(!isStatic);
        }
        check.due("few fields: " + c.getName(), yes(fields <= MOST_FIELDS), 1);
        for (Method m : c.getDeclaredMethods()) {
            check.due("few parameters: " + m.getName(), yes(m.getParameterCount() <= MOST_PARAMETERS), 1);
        }
    }

    private static void words(String code) {
        for (String word : FORBIDDEN) {
            boolean isWord = Character.isLetter(word.charAt(0));
            String pattern = isWord ? "\\b" + word + "\\b" : Pattern.quote(word);
            check.due("holds " + word, yes(Pattern.compile(pattern).matcher(code).find()), 0);
        }
    }

    /** Names with a capital and a point behind are classes of the file, or of the library. */
    private static void library(String code) {
        Matcher call = Pattern.compile("\\b([A-Z][a-z]\\w*)\\.(\\w+)").matcher(code);
        while (call.find()) {
            boolean isOwn = code.contains("class " + call.group(1) + " ");
            check.due("may be used: " + call.group(), yes(isOwn || LIBRARY.contains(call.group())), 1);
        }
    }

    /** A method ends where a brace stands as far to the right as its head. */
    private static void lengths(String source) {
        String[] lines = source.split("\n");
        for (int i = 0; i < lines.length; i++) {
            Matcher head = Pattern.compile("((?:    ){1,2})[\\w\\[\\] ]+ (\\w+)\\(.*").matcher(lines[i]);
            if (!head.matches()) {
                continue;
            }
            int end = i;
            while (end < lines.length - 1 && !lines[end].equals(head.group(1) + "}")) {
                end++;
            }
            check.due("short: " + head.group(2), yes(end - i + 1 <= MOST_LINES), 1);
        }
    }
}
