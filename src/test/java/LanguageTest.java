import java.io.IOException;
import java.lang.reflect.Constructor;
import java.lang.reflect.Field;
import java.lang.reflect.Method;
import java.lang.reflect.Modifier;
import java.nio.file.Files;
import java.nio.file.Path;
import java.util.Set;
import java.util.TreeSet;
import java.util.regex.Matcher;
import java.util.regex.Pattern;

/** What LANGUAGE.md rules out and a test can see: the face, words, the library, sizes. */
public final class LanguageTest {
    private static final Set<String> FACE = Set.of("sheet", "set", "copy", "drop", "stroke", "point", "plan", "best", "order", "rule",
        "zone", "open", "ticks", "tick", "all", "burn", "feed", "cues", "fault", "frame", "kind", "as", "ask", "trace", "count", "status");
    private static final Set<String> CONSTANTS = Set.of("NONE", "BAD", "STATE", "FULL");

    public static void main(String[] args) throws IOException {
        face();
        members();
        source(withoutTexts(Files.readString(Path.of("src/main/java/LightLines.java"))));
        Check.end();
    }

    private static void face() {
        Set<String> seen = new TreeSet<>();
        for (Method m : LightLines.class.getDeclaredMethods()) {
            if (!Modifier.isPrivate(m.getModifiers())) {
                seen.add(m.getName());
                Check.due("public " + m.getName(), Modifier.isPublic(m.getModifiers()) ? 1 : 0, 1);
                Check.due("int " + m.getName(), m.getReturnType() == int.class ? 1 : 0, 1);
            } else {
                Check.due("private " + m.getName() + " has a name of its own", FACE.contains(m.getName()) ? 0 : 1, 1);
            }
        }
        Check.due("the methods of the document", seen.equals(new TreeSet<>(FACE)) ? 1 : 0, 1);
        for (Field f : LightLines.class.getDeclaredFields()) {
            boolean isPublic = Modifier.isPublic(f.getModifiers());
            Check.due("field " + f.getName(), isPublic ? 1 : 0, CONSTANTS.contains(f.getName()) ? 1 : 0);
            Check.due("private " + f.getName(), isPublic || Modifier.isPrivate(f.getModifiers()) ? 1 : 0, 1);
        }
        Constructor<?>[] made = LightLines.class.getDeclaredConstructors();
        Check.due("one constructor", made.length, 1);
        Check.due("without arguments", made[0].getParameterCount(), 0);
        Check.due("public", Modifier.isPublic(made[0].getModifiers()) ? 1 : 0, 1);
        Check.due("final", Modifier.isFinal(LightLines.class.getModifiers()) ? 1 : 0, 1);
        Check.due("NONE", LightLines.NONE, -1000000);
        Check.due("BAD", LightLines.BAD, -1000001);
        Check.due("STATE", LightLines.STATE, -1000002);
        Check.due("FULL", LightLines.FULL, -1000003);
    }

    private static void members() {
        Class<?>[] inside = LightLines.class.getDeclaredClasses();
        Check.due("at most twelve classes", inside.length + 1 <= 12 ? 1 : 0, 1);
        for (Class<?> c : inside) {
            Check.due("static " + c.getSimpleName(), Modifier.isStatic(c.getModifiers()) ? 1 : 0, 1);
            Check.due("not open: " + c.getSimpleName(), Modifier.isPublic(c.getModifiers()) ? 0 : 1, 1);
            int fields = 0;
            for (Field f : c.getDeclaredFields()) {
                boolean isStatic = Modifier.isStatic(f.getModifiers());
                fields += isStatic ? 0 : 1;
                Check.due("static is final: " + f.getName(), !isStatic || Modifier.isFinal(f.getModifiers()) ? 1 : 0, 1);
            }
            Check.due("at most twenty fields in " + c.getSimpleName(), fields <= 20 ? 1 : 0, 1);
            for (Method m : c.getDeclaredMethods()) {
                Check.due("few parameters: " + m.getName(), m.getParameterCount() <= 7 ? 1 : 0, 1);
                Check.due("a name of its own: " + m.getName(), FACE.contains(m.getName()) ? 0 : 1, 1);
            }
        }
    }

    private static String withoutTexts(String source) {
        return source.replaceAll("(?s)/\\*.*?\\*/", " ").replaceAll("//[^\n]*", " ").replaceAll("\"[^\"\n]*\"", "TEXT")
            .replaceAll("'[^'\n]'", "SIGN");
    }

    private static void source(String code) {
        Matcher word = Pattern.compile("\\b(throw|throws|try|catch|finally|synchronized|assert|volatile|transient|native|strictfp|yield|var"
            + "|package|equals|hashCode|toString|double|float|Thread|Random|Object|Exception|Error|currentTimeMillis|nanoTime)\\b|->|::|@")
            .matcher(code);
        while (word.find()) {
            Check.due("the word " + word.group(), 1, 0);
        }
        Matcher used = Pattern.compile("\\b([A-Z][a-z]\\w*)\\.(\\w+)").matcher(code);
        Set<String> allowed = Set.of("Arrays.fill", "System.arraycopy", "Math.max", "Math.min", "Math.abs");
        Set<String> own = Set.of("Show", "Sheet", "Path");
        while (used.find()) {
            Check.due("use of " + used.group(), own.contains(used.group(1)) || allowed.contains(used.group()) ? 1 : 0, 1);
        }
        Matcher imports = Pattern.compile("import ([^;]+);").matcher(code.replace("\n", " "));
        while (imports.find()) {
            Check.due("import of " + imports.group(1), imports.group(1).equals("java.util.Arrays") ? 1 : 0, 1);
        }
        methodsAreShort(code);
    }

    /** A method begins and ends with a brace at the depth of its class's members. */
    private static void methodsAreShort(String code) {
        int start = 0;
        int line = 0;
        for (String text : code.split("\n")) {
            line++;
            if (text.matches("( {4}| {8})[a-zA-Z].*\\) \\{")) {
                start = line;
            } else if (text.matches("( {4}| {8})\\}") && start > 0) {
                Check.due("lines of the method that begins in line " + start, line - start <= 60 ? 1 : 0, 1);
                start = 0;
            }
        }
    }
}
