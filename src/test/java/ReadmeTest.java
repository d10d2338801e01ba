import java.io.IOException;
import java.lang.reflect.Method;
import java.nio.charset.StandardCharsets;
import java.nio.file.Files;
import java.nio.file.Paths;
import java.util.regex.Matcher;
import java.util.regex.Pattern;

/** Makes each call of the example in README.md, in its order, and holds the answer against the one told behind it. */
public final class ReadmeTest {
    private static final Pattern CALL = Pattern.compile("x\\.(\\w+)\\((.*)\\); +// (-?\\w+).*");

    public static void main(String[] args) throws IOException, ReflectiveOperationException {
        String page = new String(Files.readAllBytes(Paths.get("README.md")), StandardCharsets.UTF_8);
        String example = page.substring(page.indexOf("```java"), page.lastIndexOf("```"));
        SquadronFlags x = new SquadronFlags();
        int calls = 0;
        for (String line : example.split("\n")) {
            Matcher m = CALL.matcher(line);
            if (m.matches()) {
                calls++;
                String answer = "" + answer(x, m.group(1), m.group(2));
                Kit.due(line + " | " + answer + " | ", answer.equals(m.group(3)), true);
            } else {
                Kit.due("a call without an answer: " + line, line.startsWith("x."), false);
            }
        }
        Kit.due("README.md has an example", calls > 0, true);
        Kit.finish();
    }

    private static Object answer(SquadronFlags x, String name, String args) throws ReflectiveOperationException {
        String[] numbers = args.isEmpty() ? new String[0] : args.split(", ");
        Object[] values = new Object[numbers.length];
        Class<?>[] types = new Class<?>[numbers.length];
        for (int i = 0; i < numbers.length; i++) {
            values[i] = Integer.decode(numbers[i]);
            types[i] = int.class;
        }
        Method method = SquadronFlags.class.getMethod(name, types);
        return method.invoke(x, values);
    }
}
