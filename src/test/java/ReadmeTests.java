import java.lang.reflect.InvocationTargetException;
import java.lang.reflect.Method;
import java.lang.reflect.Modifier;
import java.nio.file.Files;
import java.nio.file.Path;
import java.util.regex.Matcher;
import java.util.regex.Pattern;

/** What README.md shows holds: each call answers what stands behind it, and no call is left out. */
public final class ReadmeTests {
    private static final Pattern MADE = Pattern.compile("SunPointer x = new SunPointer\\(\\);");
    private static final Pattern FED = Pattern.compile("for \\(char c : \"([^\"]*)\"\\.toCharArray\\(\\)\\) x\\.feed\\(c\\);");
    private static final Pattern CALLED = Pattern.compile("x\\.(\\w+)\\(([^()]*)\\); +// (-?\\d+)(:.*)?");

    private static SunPointer x = null;
    private static int calls = 0;
    private static int wrong = 0;

    public static void main(String[] args) throws Exception {
        String readme = Files.readString(Path.of("README.md"));
        boolean isShown = false;
        for (String line : readme.split("\n")) {
            if (line.startsWith("```")) {
                isShown = line.equals("```java");
            } else if (isShown && !line.isBlank()) {
                follow(line);
            }
        }
        everyCallIsTold(readme);
        due("calls with an answer are shown", calls > 0);
        System.out.println(calls + " calls of README.md, " + wrong + " wrong");
        if (wrong != 0) {
            System.exit(1);
        }
    }

    private static void follow(String line) throws Exception {
        Matcher fed = FED.matcher(line);
        Matcher called = CALLED.matcher(line);
        if (MADE.matcher(line).matches()) {
            x = new SunPointer();
        } else if (fed.matches() && x != null) {
            for (char c : fed.group(1).toCharArray()) {
                x.feed(c);
            }
        } else if (called.matches() && x != null) {
            calls++;
            long answer = answerOf(called.group(1), called.group(2));
            due(line + " answered " + answer, answer == Long.parseLong(called.group(3)));
        } else {
            due("a line that is no call with its answer: " + line, false);
        }
    }

    private static long answerOf(String name, String listed) throws IllegalAccessException, InvocationTargetException {
        String[] words = listed.isEmpty() ? new String[0] : listed.split(", ");
        for (Method method : SunPointer.class.getDeclaredMethods()) {
            if (Modifier.isPublic(method.getModifiers()) && method.getName().equals(name)
                    && method.getParameterCount() == words.length) {
                Object[] given = new Object[words.length];
                for (int i = 0; i < words.length; i++) {
                    given[i] = valueOf(words[i]);
                }
                return ((Number) method.invoke(x, given)).longValue();
            }
        }
        due("there is no call " + name + "(" + listed + ")", false);
        return Long.MIN_VALUE;
    }

    private static Object valueOf(String word) {
        if (word.equals("true") || word.equals("false")) {
            return word.equals("true");
        }
        return word.equals("SunPointer.NONE") ? (Object) SunPointer.NONE : (Object) Integer.valueOf(word);
    }

    private static void everyCallIsTold(String readme) {
        for (Method method : SunPointer.class.getDeclaredMethods()) {
            if (Modifier.isPublic(method.getModifiers())) {
                due("README.md tells of " + method.getName(), readme.contains("`" + method.getName() + "("));
            }
        }
    }

    private static void due(String what, boolean holds) {
        if (!holds) {
            wrong++;
            System.out.println("not so: " + what);
        }
    }
}
