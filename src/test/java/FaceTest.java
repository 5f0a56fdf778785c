import java.lang.reflect.Constructor;
import java.lang.reflect.Field;
import java.lang.reflect.Method;
import java.lang.reflect.Modifier;
import java.nio.file.Files;
import java.nio.file.Path;
import java.util.Arrays;
import java.util.List;
import java.util.Set;
import java.util.TreeSet;
import java.util.regex.Matcher;
import java.util.regex.Pattern;

/** The face that the document tells, the constants, and those rules of LANGUAGE.md that can be looked up. */
public final class FaceTest {
    private static final Set<String> METHODS = new TreeSet<>(List.of(
        "int part(int, int, int)", "int gain(int)", "int told(int, int)", "int count(int)", "int roots(int, int)",
        "int at(int, int, int)", "long row(int, int, int)", "int rows()", "int span(int, int, int)",
        "int widest(int, int, int)", "int spans(int, int)", "int corners(int)", "int neighbours(int)",
        "int off(int, int)", "int type(int)", "int read()", "int drift(int)", "int undo()", "int seed(int)",
        "int image()", "int restore()", "int judged(int, int, int, int)", "int film(int, int, int, int)",
        "int sheet(int, int, int)", "int drop(int)", "int item(int, int, int, long)",
        "int copy(int, int, int, int, int)"));
    private static final Set<String> CONSTANTS = new TreeSet<>(List.of(
        "BAD -1", "NOT -2", "FULL -3", "NONE -4", "NULL -11", "CAST -12", "INDEX -13", "SIZE -14"));

    public static void main(String[] args) throws Exception {
        face();
        Class<?>[] inside = LoopJudge.class.getDeclaredClasses();
        Check.holds("at most twelve classes", inside.length <= 12);
        for (Class<?> c : inside) {
            Check.holds(c + " is static, and not public", Modifier.isStatic(c.getModifiers())
                && !Modifier.isPublic(c.getModifiers()) && !Modifier.isProtected(c.getModifiers()));
            members(c);
        }
        members(LoopJudge.class);
        source(args.length > 0 ? Path.of(args[0]) : Path.of("src/main/java/LoopJudge.java"));
        Check.end();
    }

    private static void face() throws IllegalAccessException {
        Set<String> methods = new TreeSet<>();
        for (Method m : LoopJudge.class.getDeclaredMethods()) {
            if (Modifier.isPublic(m.getModifiers()) && !Modifier.isStatic(m.getModifiers())) {
                methods.add(told(m));
            } else {
                Check.holds(m + " is private", Modifier.isPrivate(m.getModifiers()));
                Check.holds(m + " has a name of its own", METHODS.stream().noneMatch(s -> s.contains(" " + m.getName() + "(")));
            }
        }
        Check.holds("the methods are " + METHODS + ", not " + methods, methods.equals(METHODS));
        Set<String> constants = new TreeSet<>();
        for (Field f : LoopJudge.class.getDeclaredFields()) {
            if (Modifier.isPublic(f.getModifiers())) {
                Check.holds(f + " is static and final", Modifier.isStatic(f.getModifiers()) && Modifier.isFinal(f.getModifiers()));
                constants.add(f.getName() + " " + f.getInt(null));
            } else {
                Check.holds(f + " is private", Modifier.isPrivate(f.getModifiers()));
            }
        }
        Check.holds("the constants are " + CONSTANTS + ", not " + constants, constants.equals(CONSTANTS));
        Constructor<?>[] constructors = LoopJudge.class.getDeclaredConstructors();
        Check.holds("one constructor, public and without arguments", constructors.length == 1
            && Modifier.isPublic(constructors[0].getModifiers()) && constructors[0].getParameterCount() == 0);
        int modifiers = LoopJudge.class.getModifiers();
        Check.holds("the class is public and final", Modifier.isPublic(modifiers) && Modifier.isFinal(modifiers));
    }

    private static String told(Method m) {
        StringBuilder s = new StringBuilder(m.getReturnType().getName()).append(' ').append(m.getName()).append('(');
        String types = Arrays.toString(Arrays.stream(m.getParameterTypes()).map(Class::getName).toArray());
        return s.append(types, 1, types.length() - 1).append(')').toString();
    }

    private static void members(Class<?> c) {
        int fields = 0;
        for (Field f : c.getDeclaredFields()) {
            if (Modifier.isStatic(f.getModifiers())) {
                Check.holds(f + " is final", Modifier.isFinal(f.getModifiers()));
            } else {
                fields++;
            }
        }
        Check.holds(c + " has at most twenty fields", fields <= 20);
        for (Method m : c.getDeclaredMethods()) {
            Check.holds(m + " takes at most seven parameters", m.getParameterCount() <= 7);
            if (c != LoopJudge.class) {
                Check.holds(m + " has a name of its own", METHODS.stream().noneMatch(s -> s.contains(" " + m.getName() + "(")));
            }
        }
    }

    private static void source(Path path) throws Exception {
        String text = Files.readString(path);
        Check.holds("only plain signs", text.chars().allMatch(c -> c == '\n' || c >= 32 && c <= 126));
        String code = text.replaceAll("(?s)/\\*.*?\\*/", "").replaceAll("//[^\n]*", "");
        for (String word : List.of("throw", "throws", "try", "catch", "finally", "synchronized", "assert", "package",
            "protected", "volatile", "transient", "native", "instanceof", "Object", "var", "yield", "default:.*->")) {
            Check.holds("no " + word, !Pattern.compile("\\b" + word + "\\b").matcher(code).find());
        }
        Check.holds("no lambda", !code.contains("->"));
        Check.holds("no method reference", !code.contains("::"));
        Check.holds("no annotation", !code.contains("@"));
        Check.holds("no endless loop", !Pattern.compile("while\\s*\\(\\s*true|for\\s*\\(\\s*;\\s*;").matcher(code).find());
        Matcher imports = Pattern.compile("import\\s+([^;]+);").matcher(code);
        while (imports.find()) {
            Check.holds("import " + imports.group(1), imports.group(1).equals("java.util.Arrays"));
        }
        Matcher library = Pattern.compile("\\b(System|Arrays|Math|Integer|Long)\\.(\\w+)").matcher(code);
        Set<String> used = new TreeSet<>(Set.of("System.arraycopy", "Arrays.fill", "Math.abs", "Integer.bitCount"));
        while (library.find()) {
            Check.holds("library: " + library.group(), used.contains(library.group()));
        }
        methodsAreShort(code);
    }

    private static void methodsAreShort(String code) {
        int start = -1;
        String[] lines = code.split("\n");
        for (int i = 0; i < lines.length; i++) {
            if (lines[i].matches("^( {4}| {8})(?! )[^=;]*\\) \\{$")) {
                start = i;
            } else if (start >= 0 && lines[i].matches("^( {4}| {8})}$")) {
                Check.holds("short enough: " + lines[start].trim(), i - start <= 60);
                start = -1;
            }
        }
    }
}
