import java.io.IOException;
import java.lang.reflect.InvocationTargetException;
import java.lang.reflect.Method;
import java.nio.charset.StandardCharsets;
import java.nio.file.Files;
import java.nio.file.Path;
import java.util.List;
import java.util.regex.Matcher;
import java.util.regex.Pattern;

/** README.md's example answers as it says there, and every call of the face is told there. */
public final class ReadmeTest extends Due {
    private static final Pattern TEXT = Pattern.compile("put\\(judge, \"(.*)\"\\);");
    private static final Pattern CALL =
            Pattern.compile("judge\\.(\\w+)\\((.*?)\\);\\s+// (?:throws )?(-?\\w+)(?::.*)?");

    public static void main(String[] args) throws IOException, IllegalAccessException {
        List<String> lines = Files.readAllLines(Path.of("README.md"), StandardCharsets.UTF_8);
        int start = lines.indexOf("### An example");
        int end = lines.indexOf("### All calls");
        dueText("the example is there", "" + (start >= 0 && end > start), "true");
        runExample(lines.subList(Math.max(0, start), Math.max(0, Math.max(start, end))));
        String table = String.join("\n", lines.subList(Math.max(0, end), lines.size()));
        for (Method method : HeapJudge.class.getMethods()) {
            if (method.getDeclaringClass() == HeapJudge.class) {
                dueText(method.getName() + " is told", "" + table.contains("`" + method.getName() + "("), "true");
            }
        }
        end();
    }

    static void runExample(List<String> lines) throws IllegalAccessException {
        HeapJudge judge = new HeapJudge();
        for (String line : lines) {
            Matcher text = TEXT.matcher(line);
            Matcher call = CALL.matcher(line);
            if (text.matches()) {
                put(judge, text.group(1));
            } else if (call.matches()) {
                dueText(line, answer(judge, call.group(1), call.group(2)), call.group(3));
            } else {
                dueText("a call without an answer", "" + line.startsWith("judge."), "false");
            }
        }
    }

    static String answer(HeapJudge judge, String name, String written) throws IllegalAccessException {
        String[] texts = written.isEmpty() ? new String[0] : written.split(", ");
        Object[] numbers = new Object[texts.length];
        for (int i = 0; i < texts.length; i++) {
            numbers[i] = Integer.decode(texts[i]);
        }
        for (Method method : HeapJudge.class.getMethods()) {
            if (method.getName().equals(name) && method.getParameterCount() == numbers.length) {
                try {
                    return "" + method.invoke(judge, numbers);
                } catch (InvocationTargetException e) {
                    return e.getCause().getClass().getSimpleName();
                }
            }
        }
        return "no such call";
    }
}
