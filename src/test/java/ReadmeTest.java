import java.io.IOException;
import java.lang.reflect.InvocationTargetException;
import java.lang.reflect.Method;
import java.lang.reflect.Modifier;
import java.nio.file.Files;
import java.nio.file.Path;
import java.util.HashMap;
import java.util.List;
import java.util.Map;
import java.util.regex.Matcher;
import java.util.regex.Pattern;

/** Plays the examples of README.md line by line: each call must answer what stands behind it. */
public final class ReadmeTest {
    private static final Pattern MADE = Pattern.compile("HueAndCry cry = new HueAndCry\\(\\);");
    private static final Pattern CALL =
        Pattern.compile("(?:int (\\w+) = )?cry\\.(\\w+)\\(([^)]*)\\);(?:\\s*// (-?\\d+|true|false)(?::.*)?)?");

    private static int wrong = 0;
    private static int played = 0;
    private static HueAndCry cry = null;
    private static final Map<String, Integer> names = new HashMap<>();

    public static void main(String[] args) throws IOException, IllegalAccessException, InvocationTargetException {
        List<String> lines = Files.readAllLines(Path.of("README.md"));
        boolean isExample = false;
        for (String line : lines) {
            if (line.startsWith("```")) {
                isExample = line.equals("```java");
            } else if (isExample) {
                play(line);
            }
        }
        check(played >= 30, "README.md has its examples");
        String page = String.join("\n", lines);
        for (Method m : HueAndCry.class.getDeclaredMethods()) {
            check(!Modifier.isPublic(m.getModifiers()) || page.contains("`" + m.getName() + "("), "README.md names " + m.getName());
        }
        System.out.println(wrong == 0 ? "README.md is as due" : wrong + " faults in README.md");
        if (wrong != 0) {
            System.exit(1);
        }
    }

    private static void check(boolean is, String what) {
        if (!is) {
            wrong++;
            System.out.println("not so: " + what);
        }
    }

    private static void play(String line) throws IllegalAccessException, InvocationTargetException {
        if (MADE.matcher(line).matches()) {
            cry = new HueAndCry();
            names.clear();
            return;
        }
        Matcher call = CALL.matcher(line);
        if (!call.matches()) {
            check(false, "a line that can be played: " + line);
            return;
        }
        String answer = String.valueOf(answer(call.group(2), call.group(3).split(", ")));
        if (call.group(1) != null) {
            names.put(call.group(1), Integer.parseInt(answer));
        }
        check(call.group(4) == null || call.group(4).equals(answer), line + " (it answered " + answer + ")");
        played++;
    }

    private static Object answer(String name, String[] words) throws IllegalAccessException, InvocationTargetException {
        for (Method m : HueAndCry.class.getDeclaredMethods()) {
            if (m.getName().equals(name)) {
                Object[] values = new Object[m.getParameterCount()];
                for (int i = 0; i < values.length; i++) {
                    values[i] = value(words[i]);
                }
                return m.invoke(cry, values);
            }
        }
        return "no such call";
    }

    private static Object value(String word) {
        if (word.equals("true") || word.equals("false")) {
            return Boolean.valueOf(word);
        }
        return names.containsKey(word) ? names.get(word) : Integer.decode(word);
    }
}
