import java.io.IOException;
import java.lang.reflect.Method;
import java.lang.reflect.Modifier;
import java.nio.file.Files;
import java.nio.file.Path;
import java.util.regex.Matcher;
import java.util.regex.Pattern;

/** README.md tells each call of the public face (promises 1 to 15), and its example answers what it says. */
public final class ReadmeTest {
    private static final Check CHECK = new Check();
    private static final Pattern EXAMPLE_LINE = Pattern.compile("desk\\.(\\w+)\\((.*)\\);\\s*// (-?\\d+).*");

    public static void main(String[] args) throws IOException, ReflectiveOperationException {
        String readme = Files.readString(Path.of("README.md"));
        eachCallIsTold(readme);
        theExampleAnswersWhatItSays(readme);
        CHECK.end();
    }

    private static void eachCallIsTold(String readme) {
        CHECK.due("told: UnderText()", true, readme.contains("- `UnderText()`: "));
        for (Method m : UnderText.class.getDeclaredMethods()) {
            if (Modifier.isPublic(m.getModifiers())) {
                String parameters = "\\w+(, \\w+){" + (m.getParameterCount() - 1) + "}";
                String call = m.getName() + "\\(" + (m.getParameterCount() == 0 ? "" : parameters) + "\\)";
                CHECK.due("told: " + m.getName(), true, Pattern.compile("- `" + call + "`: ").matcher(readme).find());
            }
        }
    }

    private static void theExampleAnswersWhatItSays(String readme) throws ReflectiveOperationException {
        UnderText desk = new UnderText();
        int played = 0;
        for (String line : readme.split("\n")) {
            Matcher call = EXAMPLE_LINE.matcher(line);
            if (call.matches()) {
                played++;
                CHECK.due(line, Integer.parseInt(call.group(3)), answer(desk, call.group(1), call.group(2)));
            }
        }
        CHECK.due("calls of the example", readme.split("desk\\.").length - 1, played);
        CHECK.due("there is an example", true, played > 0);
    }

    private static int answer(UnderText desk, String name, String numbers) throws ReflectiveOperationException {
        String[] parts = numbers.isEmpty() ? new String[0] : numbers.split(", ");
        Object[] given = new Object[parts.length];
        Class<?>[] types = new Class<?>[parts.length];
        for (int i = 0; i < parts.length; i++) {
            given[i] = parts[i].startsWith("0b") ? Integer.valueOf(parts[i].substring(2), 2) : Integer.decode(parts[i]);
            types[i] = int.class;
        }
        return (int) UnderText.class.getMethod(name, types).invoke(desk, given);
    }
}
