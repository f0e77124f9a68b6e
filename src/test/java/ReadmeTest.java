import java.io.IOException;
import java.lang.reflect.InvocationTargetException;
import java.lang.reflect.Method;
import java.lang.reflect.Modifier;
import java.nio.file.Files;
import java.nio.file.Path;
import java.util.List;
import java.util.regex.Matcher;
import java.util.regex.Pattern;

/** The README's calls answer as it says, and it names every call of the class. It lies in the folder of the run. */
public final class ReadmeTest {
    private static final String MADE = "TowerBench bench = new TowerBench();";
    private static final Pattern CALL =
            Pattern.compile("bench\\.(\\w+)\\(([^)]*)\\); +// (throws \\w+|-?\\d+|true|false)(:.*)?");

    public static void main(String[] args) throws IOException {
        Check check = new Check("ReadmeTest");
        List<String> lines = Files.readAllLines(Path.of("README.md"));
        runExample(check, lines);
        nameAllCalls(check, String.join("\n", lines));
        check.end();
    }

    private static void runExample(Check check, List<String> lines) {
        int made = lines.indexOf("```java") + 1;
        check.due("the example makes a bench", made > 0 && lines.get(made).startsWith(MADE), true);
        TowerBench bench = new TowerBench();
        int calls = 0;
        for (int at = made + 1; at < lines.size() && !lines.get(at).equals("```"); at++) {
            Matcher call = CALL.matcher(lines.get(at));
            if (call.matches()) {
                calls++;
                check.dueText(lines.get(at), answer(bench, call.group(1), call.group(2)), call.group(3));
            } else {
                check.tell("no call and its answer: " + lines.get(at));
            }
        }
        check.due("the example has calls", calls > 0, true);
    }

    private static void nameAllCalls(Check check, String text) {
        for (Method m : TowerBench.class.getDeclaredMethods()) {
            if (Modifier.isPublic(m.getModifiers())) {
                check.due("README names " + m.getName(), text.contains("`" + m.getName() + "("), true);
            }
        }
    }

    private static String answer(TowerBench bench, String name, String arguments) {
        String[] words = arguments.isEmpty() ? new String[0] : arguments.split(", ");
        for (Method m : TowerBench.class.getDeclaredMethods()) {
            if (Modifier.isPublic(m.getModifiers()) && m.getName().equals(name)
                    && m.getParameterCount() == words.length) {
                return answer(bench, m, words);
            }
        }
        return "no such call";
    }

    private static String answer(TowerBench bench, Method m, String[] words) {
        Object[] values = new Object[words.length];
        for (int k = 0; k < words.length; k++) {
            boolean isFlag = m.getParameterTypes()[k] == boolean.class;
            values[k] = isFlag ? (Object) Boolean.valueOf(words[k]) : (Object) Integer.valueOf(words[k]);
        }
        try {
            return "" + m.invoke(bench, values);
        } catch (InvocationTargetException e) {
            return "throws " + e.getCause().getClass().getSimpleName();
        } catch (IllegalAccessException e) {
            return "not to be called";
        }
    }
}
