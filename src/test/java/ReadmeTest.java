import java.lang.reflect.Field;
import java.lang.reflect.Method;
import java.lang.reflect.Modifier;
import java.nio.file.Files;
import java.nio.file.Path;
import java.util.ArrayList;
import java.util.List;
import java.util.regex.Matcher;
import java.util.regex.Pattern;

/** README.md: its example answers as it says, and its tables leave out no call and no answer below 0. */
public final class ReadmeTest {
    private static final Pattern EXAMPLE = Pattern.compile("(?s)```java\n(.*?)```");
    private static final Pattern TYPED = Pattern.compile("\"([^\"]*)\"\\.toCharArray\\(\\)");
    private static final Pattern CALL = Pattern.compile("^judge\\.(\\w+)\\(([^)]*)\\)(?: - (\\d+))?; *// (-?\\d+): (.*)$");

    public static void main(String[] args) throws Exception {
        String text = Files.readString(Path.of("README.md"));
        example(text);
        calls(text);
        answersBelowZero(text);
        Check.holds("it says how the tests are run", text.contains("\n    .ci/run\n"));
        Check.end();
    }

    private static void example(String text) throws Exception {
        Matcher block = EXAMPLE.matcher(text);
        Check.holds("there is an example", block.find());
        LoopJudge judge = new LoopJudge();
        int ran = 0;
        for (String line : block.group(1).split("\n")) {
            Matcher typed = TYPED.matcher(line);
            if (typed.find()) {
                for (char letter : typed.group(1).toCharArray()) {
                    judge.type(letter);
                }
            }
            if (line.startsWith("judge.")) {
                run(judge, line);
                ran++;
            }
        }
        Check.holds("the example calls something", ran > 0);
    }

    private static void run(LoopJudge judge, String line) throws Exception {
        Matcher call = CALL.matcher(line);
        if (!call.matches()) {
            Check.holds("a call with its answer: " + line, false);
            return;
        }
        List<Object> arguments = new ArrayList<>();
        for (String number : call.group(2).split(", ")) {
            if (!number.isEmpty()) {
                arguments.add(Integer.valueOf(number));
            }
        }
        Object answer = named(call.group(1)).invoke(judge, arguments.toArray());
        long less = call.group(3) == null ? 0 : Long.parseLong(call.group(3));
        long want = Long.parseLong(call.group(4));
        Check.due(line, ((Number) answer).longValue() - less, want);
        if (want < 0 && less == 0) {
            Check.holds("the answer's name stands there: " + line, call.group(5).startsWith(nameOf(want)));
        }
    }

    private static Method named(String name) {
        for (Method m : LoopJudge.class.getDeclaredMethods()) {
            if (m.getName().equals(name) && Modifier.isPublic(m.getModifiers())) {
                return m;
            }
        }
        throw new IllegalArgumentException("no call " + name);
    }

    private static String nameOf(long answer) throws IllegalAccessException {
        for (Field f : LoopJudge.class.getFields()) {
            if (f.getInt(null) == answer) {
                return f.getName();
            }
        }
        return "no name";
    }

    private static void calls(String text) {
        for (Method m : LoopJudge.class.getDeclaredMethods()) {
            if (Modifier.isPublic(m.getModifiers())) {
                Matcher told = Pattern.compile("\n\\| `" + m.getName() + "\\(([^)]*)\\)` \\| ").matcher(text);
                Check.holds(m.getName() + " stands in the table", told.find()
                    && argumentsIn(told.group(1)) == m.getParameterCount());
            }
        }
    }

    private static int argumentsIn(String told) {
        return told.isEmpty() ? 0 : told.split(", ").length;
    }

    private static void answersBelowZero(String text) throws IllegalAccessException {
        for (Field f : LoopJudge.class.getFields()) {
            Check.holds(f.getName() + " stands in the table with its number",
                text.contains("\n| `" + f.getName() + "` | " + f.getInt(null) + " | "));
        }
        Check.holds("faults of a text are told", text.contains("| -20 and below | `read`"));
    }
}
