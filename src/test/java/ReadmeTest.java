import java.io.IOException;
import java.lang.reflect.Method;
import java.nio.file.Files;
import java.nio.file.Path;
import java.util.regex.Matcher;
import java.util.regex.Pattern;

/** What README.md shows holds: each line of its code, and a row in its tables for each call. */
public final class ReadmeTest {
    private static final Path README = Path.of("README.md");
    private static final Path DOCUMENT = Path.of("../shared/DOC.md");

    private ReadmeTest() {
    }

    public static void main(String[] args) throws IOException, ReflectiveOperationException {
        String text = Files.readString(README);
        code(text);
        tables(text);
        Hand.end();
    }

    private static void code(String text) throws ReflectiveOperationException {
        Matcher block = Pattern.compile("(?s)```java\n(.*?)```").matcher(text);
        Hand.due("README.md has code", block.find(), true);
        Told x = new Told();
        for (String line : block.group(1).split("\n+")) {
            if (!line.equals("WallFractions x = new WallFractions();")) {
                line(x, line);
            }
        }
    }

    private static void line(Told x, String line) throws ReflectiveOperationException {
        Matcher call = Pattern.compile("x\\.(\\w+)\\((.*)\\); +// (register (\\d+) is|answers|throws) (\\S+)")
            .matcher(line);
        Hand.due("a call and what it does: " + line, call.matches(), true);
        String told = call(x, call.group(1), call.group(2).split(", "));
        switch (call.group(3)) {
            case "answers" -> Hand.due(line, told, call.group(5));
            case "throws" -> Hand.due(line, told, "throws." + call.group(5));
            default -> {
                Hand.due(line, told, Hand.NOTHING);
                Hand.due(line, x.read(Integer.parseInt(call.group(4))), call.group(5));
            }
        }
    }

    private static String call(Told x, String name, String[] numbers) throws ReflectiveOperationException {
        Class<?>[] types = types(name);
        Object[] values = new Object[types.length];
        Hand.due("numbers of " + name, numbers.length, types.length);
        for (int i = 0; i < types.length; i++) {
            values[i] = types[i] == long.class ? (Object) Long.valueOf(numbers[i]) : Integer.valueOf(numbers[i]);
        }
        return (String) Told.class.getDeclaredMethod(name, types).invoke(x, values);
    }

    private static Class<?>[] types(String name) throws NoSuchMethodException {
        for (Method method : WallFractions.class.getMethods()) {
            if (method.getName().equals(name)) {
                return method.getParameterTypes();
            }
        }
        throw new NoSuchMethodException(name);
    }

    private static void tables(String text) throws IOException {
        Matcher calls = Pattern.compile("public \\w+ (\\w+)\\(([^)]*)\\)").matcher(Files.readString(DOCUMENT));
        int rows = 0;
        while (calls.find()) {
            String call = calls.group(1) + "(" + calls.group(2).replaceAll("\\w+ (\\w+)", "$1") + ")";
            Hand.due("a row for " + call, text.contains("\n| `" + call + "` | "), true);
            rows++;
        }
        Hand.due("calls of the document", rows, 18);
    }
}
