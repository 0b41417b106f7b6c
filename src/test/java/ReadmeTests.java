import java.io.IOException;
import java.lang.reflect.Method;
import java.lang.reflect.Modifier;
import java.nio.charset.StandardCharsets;
import java.nio.file.Files;
import java.nio.file.Path;
import java.util.Set;
import java.util.TreeSet;
import java.util.regex.Matcher;
import java.util.regex.Pattern;

/** The example of README.md answers what stands behind its calls, and README.md names each call of the face. */
public final class ReadmeTests extends Checks {
    private static final Pattern EXAMPLE = Pattern.compile("(?s)```java\n(.*?)```");
    private static final Pattern CALL = Pattern.compile("elevator\\.(\\w+)\\(([-0-9, ]*)\\); +// (-?\\d+)\\b.*");
    private static final Pattern SIGNS = Pattern.compile("for \\(char sign : \"(.*)\"\\.toCharArray\\(\\)\\) \\{");
    private static final Set<String> AROUND_SIGNS = Set.of("elevator.append(sign);", "}");
    private static final String FIRST_LINE = "RopeThreads elevator = new RopeThreads();";

    public static void main(String[] args) throws IOException, ReflectiveOperationException {
        about("README.md");
        String text = Files.readString(Path.of("README.md"), StandardCharsets.UTF_8);
        example(text);
        names(text);
        finish("the example of README.md is as due");
    }

    private static void example(String text) throws ReflectiveOperationException {
        Matcher found = EXAMPLE.matcher(text);
        String[] lines = found.find() ? found.group(1).split("\n") : new String[] {""};
        due("first line of the example", lines[0].equals(FIRST_LINE) ? 1 : 0, 1);
        RopeThreads elevator = new RopeThreads();
        for (int i = 1; i < lines.length; i++) {
            line(elevator, lines[i].trim());
        }
    }

    private static void line(RopeThreads elevator, String line) throws ReflectiveOperationException {
        Matcher call = CALL.matcher(line);
        Matcher signs = SIGNS.matcher(line);
        if (call.matches()) {
            due(line, answer(elevator, call.group(1), call.group(2)), Long.parseLong(call.group(3)));
        } else if (signs.matches()) {
            type(elevator, signs.group(1));
        } else if (!AROUND_SIGNS.contains(line)) {
            fault("this test does not understand \"" + line + "\"");
        }
    }

    private static long answer(RopeThreads elevator, String name, String list) throws ReflectiveOperationException {
        String[] words = list.isBlank() ? new String[0] : list.split(", ");
        Class<?>[] types = new Class<?>[words.length];
        Object[] values = new Object[words.length];
        for (int i = 0; i < words.length; i++) {
            types[i] = int.class;
            values[i] = Integer.valueOf(words[i]);
        }
        Method method = RopeThreads.class.getMethod(name, types);
        return ((Number) method.invoke(elevator, values)).longValue();
    }

    private static void names(String text) {
        Set<String> missing = new TreeSet<>();
        for (Method method : RopeThreads.class.getDeclaredMethods()) {
            if (Modifier.isPublic(method.getModifiers())
                    && !text.contains("`" + method.getName() + "`")) {
                missing.add(method.getName());
            }
        }
        if (!missing.isEmpty()) {
            fault("README.md does not name " + missing);
        }
    }
}
