import java.io.IOException;
import java.lang.reflect.InvocationTargetException;
import java.lang.reflect.Method;
import java.nio.file.Files;
import java.nio.file.Path;
import java.util.HashMap;
import java.util.List;
import java.util.Map;
import java.util.regex.Matcher;
import java.util.regex.Pattern;

/** Makes the calls that README.md shows, and compares the answers that it tells. */
public final class ReadmeTest {
    private static final Pattern CALL =
        Pattern.compile("(?:int (\\w+) = )?x\\.(\\w+)\\(([^)]*)\\); *// (-?\\d+)?.*");
    private static final String FIRST = "LinearHistories x = new LinearHistories();";

    private final Check check = new Check();
    private final LinearHistories x = new LinearHistories();
    private final Map<String, Integer> names = new HashMap<>();

    public static void main(String[] args) throws IOException {
        Path readme = Path.of(args.length > 0 ? args[0] : "README.md");
        new ReadmeTest().run(Files.readAllLines(readme));
    }

    private void run(List<String> lines) {
        int first = lines.indexOf(FIRST);
        check.isTrue("README.md shows calls", first >= 0);
        for (int i = first + 1; first >= 0 && !lines.get(i).equals("```"); i++) {
            make(lines.get(i));
        }
        check.end();
    }

    private void make(String line) {
        Matcher call = CALL.matcher(line);
        check.isTrue("a line that shows a call: " + line, call.matches());
        if (!call.matches()) {
            return;
        }
        String answer = outcome(call.group(2), call.group(3));
        if (call.group(1) != null) {
            names.put(call.group(1), Integer.parseInt(answer));
        }
        check.same(line, answer, call.group(4) == null ? "nothing" : call.group(4));
    }

    private String outcome(String name, String words) {
        Object[] numbers = words.isEmpty() ? new Object[0] : numbers(words.split(", "));
        for (Method method : LinearHistories.class.getDeclaredMethods()) {
            if (method.getName().equals(name)) {
                return outcome(method, numbers);
            }
        }
        return "no such method";
    }

    private Object[] numbers(String[] words) {
        Object[] numbers = new Object[words.length];
        for (int i = 0; i < words.length; i++) {
            Integer named = names.get(words[i]);
            numbers[i] = named != null ? named : Integer.valueOf(words[i]);
        }
        return numbers;
    }

    private String outcome(Method method, Object[] numbers) {
        try {
            Object answer = method.invoke(x, numbers);
            return answer == null ? "nothing" : answer.toString();
        } catch (InvocationTargetException e) {
            return e.getCause().toString();
        } catch (IllegalAccessException e) {
            return e.toString();
        }
    }
}
