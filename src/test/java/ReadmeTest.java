import java.io.IOException;
import java.lang.reflect.Method;
import java.nio.file.Files;
import java.nio.file.Path;
import java.util.HashMap;
import java.util.Map;
import java.util.regex.Matcher;
import java.util.regex.Pattern;

/** The examples of README.md, line by line: each call answers the number that stands behind it. */
public final class ReadmeTest {
    private static final Pattern BLOCK = Pattern.compile("(?s)```java\n(.*?)```");
    private static final Pattern NEW = Pattern.compile("ConstantStarts x = new ConstantStarts\\(\\);");
    private static final Pattern CALL =
        Pattern.compile("(?:int (\\w+) = )?x\\.(\\w+)\\(([^)]*)\\);\\s*// (-?\\d+)(?:: .*)?");

    private final Check check = new Check("readme");
    private final Map<String, Integer> names = new HashMap<>();
    private ConstantStarts x = null;

    public static void main(String[] args) throws IOException, ReflectiveOperationException {
        ReadmeTest test = new ReadmeTest();
        Matcher block = BLOCK.matcher(Files.readString(Path.of("README.md")));
        int blocks = 0;
        while (block.find()) {
            test.run(block.group(1));
            blocks++;
        }
        test.check.holds("there are examples", blocks > 0);
        test.check.end();
    }

    private void run(String example) throws ReflectiveOperationException {
        names.clear();
        for (String line : example.split("\n")) {
            if (NEW.matcher(line).matches()) {
                x = new ConstantStarts();
            } else {
                call(line);
            }
        }
    }

    private void call(String line) throws ReflectiveOperationException {
        Matcher call = CALL.matcher(line);
        if (!call.matches()) {
            check.holds("can be read: " + line, false);
            return;
        }
        int answer = invoke(call.group(2), call.group(3));
        check.due(line, answer, Integer.parseInt(call.group(4)));
        if (call.group(1) != null) {
            names.put(call.group(1), answer);
        }
    }

    private int invoke(String name, String list) throws ReflectiveOperationException {
        String[] words = list.isEmpty() ? new String[0] : list.split(", ");
        Class<?>[] types = new Class<?>[words.length];
        Object[] numbers = new Object[words.length];
        for (int i = 0; i < words.length; i++) {
            types[i] = int.class;
            numbers[i] = names.containsKey(words[i]) ? names.get(words[i]) : Integer.valueOf(words[i]);
        }
        Method method = ConstantStarts.class.getMethod(name, types);
        return (Integer) method.invoke(x, numbers);
    }
}
