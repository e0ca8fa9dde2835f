import java.io.IOException;
import java.lang.reflect.Constructor;
import java.lang.reflect.Field;
import java.lang.reflect.Method;
import java.lang.reflect.Modifier;
import java.nio.file.Files;
import java.nio.file.Path;
import java.util.Arrays;
import java.util.HashSet;
import java.util.Set;
import java.util.regex.Matcher;
import java.util.regex.Pattern;
import java.util.stream.Collectors;

/** The rules of ../shared/LANGUAGE.md that can be seen in the class and in its text. */
public final class LanguageTest {
    public static void main(String[] args) throws IOException {
        String text = Files.readString(Path.of("src/main/java/HummingDisc.java"));
        String code = text.replaceAll("(?s)/\\*.*?\\*/", "").replaceAll("//[^\n]*", "").replaceAll("\"[^\"\n]*\"", "\"\"");
        none(code, "(?m)^package ");
        none(code, "\\b(throw|throws|try|catch|synchronized|assert|float|double|super|extends|this\\(|static \\{)");
        none(code, "->|::|@|\\bnew [A-Za-z]+\\([^()]*\\) *\\{");
        none(code, "\"\" *\\+|\\+ *\"\"");
        none(code, "import (?!java\\.util\\.Arrays;)");
        none(code, "Math\\.(?!abs|max|min)");
        none(code, "\\b(System|Arrays)\\.(?!arraycopy|fill)");
        Due.is("signs beyond 127", text.chars().filter(c -> c > 127).count(), 0);
        face();
        names();
        lengths(text);
        Due.end();
    }

    private static void none(String code, String pattern) {
        Matcher m = Pattern.compile(pattern).matcher(code);
        while (m.find()) Due.is("rule against " + pattern + " at: " + m.group(), 1, 0);
    }

    /** Rules 1 and 5: nothing but the document's face is seen from outside, and all static is final. */
    private static void face() throws IOException {
        Class<?> c = HummingDisc.class;
        Due.is("public and final", c.getModifiers(), Modifier.PUBLIC | Modifier.FINAL);
        int calls = 0, constants = 0;
        for (Method m : c.getDeclaredMethods()) {
            if (m.isSynthetic()) continue;
            if (Modifier.isPublic(m.getModifiers())) calls++;
            else Due.is(m.getName() + " is private", Modifier.isPrivate(m.getModifiers()) ? 1 : 0, 1);
        }
        for (Field f : c.getDeclaredFields()) {
            if (Modifier.isPublic(f.getModifiers())) constants++;
            else Due.is(f.getName() + " is private", Modifier.isPrivate(f.getModifiers()) ? 1 : 0, 1);
        }
        for (Constructor<?> made : c.getDeclaredConstructors()) Due.is("made by", made.getParameterCount(), 0);
        Due.is("calls", calls, 30);
        toldFace(c);
        Due.is("constants", constants, 4);
        Due.is("NONE", HummingDisc.NONE, -1000000);
        Due.is("BAD", HummingDisc.BAD, -1000001);
        Due.is("STATE", HummingDisc.STATE, -1000002);
        Due.is("FULL", HummingDisc.FULL, -1000003);
        for (Class<?> inside : c.getDeclaredClasses()) {
            Due.is(inside + " is static", Modifier.isStatic(inside.getModifiers()) ? 1 : 0, 1);
            int fields = 0;
            for (Field f : inside.getDeclaredFields()) {
                if (!Modifier.isStatic(f.getModifiers())) fields++;
                else Due.is(f + " is final", Modifier.isFinal(f.getModifiers()) ? 1 : 0, 1);
            }
            Due.is(inside + " has some twenty fields at most", fields <= 20 ? 1 : 0, 1);
        }
        Due.is("some twelve classes at most", c.getDeclaredClasses().length + 1 <= 12 ? 1 : 0, 1);
    }

    /** The calls are those of the document's interface, each with what it is given there. */
    private static void toldFace(Class<?> c) throws IOException {
        Path document = Path.of("../shared/DOC.md");
        if (!Files.isReadable(document)) return;
        Matcher m = Pattern.compile("public (?:static )?int (\\w+)\\(([^)]*)\\);").matcher(Files.readString(document));
        int told = 0;
        while (m.find()) {
            told++;
            String given = m.group(2).replaceAll(" \\w+(?=,|$)", "");
            long alike = Arrays.stream(c.getDeclaredMethods()).filter(x -> Modifier.isPublic(x.getModifiers()))
                .filter(x -> x.getReturnType() == int.class && x.getName().equals(m.group(1)))
                .filter(x -> given(x).equals(given)).count();
            Due.is("calls such as " + m.group(), alike, 1);
        }
        Due.is("calls told", told, 30);
    }

    private static String given(Method call) {
        return Arrays.stream(call.getParameterTypes()).map(Class::getName).collect(Collectors.joining(", "));
    }

    /** Rule 1: no method inside bears the name of a public one; rule 11: seven parameters at most. */
    private static void names() {
        Set<String> calls = new HashSet<>();
        for (Method m : HummingDisc.class.getDeclaredMethods()) {
            if (Modifier.isPublic(m.getModifiers())) calls.add(m.getName());
        }
        for (Method m : HummingDisc.class.getDeclaredMethods()) {
            if (Modifier.isPrivate(m.getModifiers())) isNoCall(m, calls);
        }
        for (Class<?> inside : HummingDisc.class.getDeclaredClasses()) {
            for (Method m : inside.getDeclaredMethods()) isNoCall(m, calls);
        }
    }

    private static void isNoCall(Method m, Set<String> calls) {
        Due.is(m + " is named as a call", calls.contains(m.getName()) ? 1 : 0, 0);
        Due.is(m + " has seven parameters at most", m.getParameterCount() <= 7 ? 1 : 0, 1);
    }

    /** Rule 11: methods of some sixty lines at most; a method ends where a brace stands as far in as its first line. */
    private static void lengths(String text) {
        String[] lines = text.split("\n");
        for (int from = 0; from < lines.length; from++) {
            if (!lines[from].matches(" +[a-zA-Z\\[\\] ]+\\([^;]*\\) \\{") || lines[from].contains("new ")) continue;
            String end = lines[from].replaceAll("[^ ].*", "") + "}";
            int to = from;
            while (to < lines.length && !lines[to].equals(end)) to++;
            Due.is("lines of: " + lines[from], to - from <= 60 ? 1 : 0, 1);
        }
    }
}
