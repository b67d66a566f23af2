import java.io.IOException;
import java.lang.reflect.Constructor;
import java.lang.reflect.Field;
import java.lang.reflect.Member;
import java.lang.reflect.Method;
import java.lang.reflect.Modifier;
import java.nio.file.Files;
import java.nio.file.Path;
import java.util.List;
import java.util.Set;
import java.util.TreeSet;
import java.util.regex.Matcher;
import java.util.regex.Pattern;

/** What of LANGUAGE.md a machine can see: the face, and words that the program may not hold. */
public final class LanguageTest {
    private static final Set<String> FACE = Set.of("question", "set", "length", "share", "sure",
            "weight", "about", "fit", "begin", "next", "answer", "back", "end", "quit", "may",
            "gain", "done", "now", "asked", "reach", "count");
    private static final Set<String> CONSTANTS = Set.of("BAD", "STATE", "FULL", "NONE");
    private static final List<String> FORBIDDEN = List.of("throw", "throws", "try", "catch",
            "synchronized", "assert", "import", "package", "->", "::", "Exact", "equals",
            "hashCode", "toString", "protected");

    private static final Check check = new Check("LanguageTest");

    public static void main(String[] args) throws IOException {
        face();
        namesInside();
        words(Files.readString(Path.of(args[0])));
        check.finish();
    }

    private static void face() {
        Class<?> c = QuestionLadder.class;
        check.due("public final", c.getModifiers(), Modifier.PUBLIC | Modifier.FINAL);
        Set<String> methods = new TreeSet<>();
        for (Method m : c.getDeclaredMethods()) {
            isOpenOnlyIf(m, FACE.contains(m.getName()));
            if (Modifier.isPublic(m.getModifiers())) {
                methods.add(m.getName());
            }
        }
        check.due("all methods are there", methods.equals(new TreeSet<>(FACE)) ? 1 : 0, 1);
        for (Field f : c.getDeclaredFields()) {
            isOpenOnlyIf(f, CONSTANTS.contains(f.getName()));
            boolean free = Modifier.isStatic(f.getModifiers()) && !Modifier.isFinal(f.getModifiers());
            check.due("no static state: " + f.getName(), free ? 1 : 0, 0);
        }
        for (Constructor<?> k : c.getDeclaredConstructors()) {
            isOpenOnlyIf(k, k.getParameterCount() == 0);
        }
    }

    private static void isOpenOnlyIf(Member member, boolean isOfTheFace) {
        int modifiers = member.getModifiers();
        boolean good = isOfTheFace ? Modifier.isPublic(modifiers) : Modifier.isPrivate(modifiers);
        check.due("open as the face says: " + member.getName(), good ? 1 : 0, 1);
    }

    private static void namesInside() {
        for (Class<?> c : QuestionLadder.class.getDeclaredClasses()) {
            check.due("static: " + c.getName(), c.getModifiers() & Modifier.STATIC, Modifier.STATIC);
            for (Method m : c.getDeclaredMethods()) {
                check.due("a name of its own: " + m.getName(), FACE.contains(m.getName()) ? 1 : 0, 0);
                check.due("at most seven parameters", m.getParameterCount() > 7 ? 1 : 0, 0);
            }
        }
    }

    private static void words(String source) {
        String code = source.replaceAll("(?s)/\\*.*?\\*/", " ").replaceAll("//[^\n]*", " ");
        for (String word : FORBIDDEN) {
            boolean isWord = Character.isLetter(word.charAt(0));
            String pattern = isWord ? "\\b" + word + "\\b" : Pattern.quote(word);
            Matcher found = Pattern.compile(pattern).matcher(code);
            check.due("holds " + word, found.find() ? 1 : 0, 0);
        }
        check.due("only plain signs", source.chars().allMatch(s -> s == '\n' || s >= 32 && s < 127)
                ? 1 : 0, 1);
    }
}
