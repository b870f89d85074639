import java.io.IOException;
import java.lang.reflect.Method;
import java.nio.charset.StandardCharsets;
import java.nio.file.Files;
import java.nio.file.Path;
import java.util.regex.Matcher;
import java.util.regex.Pattern;

/** Asks each call that README.md tells, in its order; the answer is the number told behind it. */
public final class ReadmeTest {
    private static final Pattern CALL = Pattern.compile("x\\.(\\w+)\\(([^)]*)\\);\\s*// (-?\\d+)\\b.*");
    private static final Pattern TYPED = Pattern.compile("for \\(char c : \"([^\"]*)\"\\.toCharArray\\(\\)\\) \\{ x\\.type\\(c\\); \\}");
    private static final String NEW = "FrozenIn x = new FrozenIn();";

    private FrozenIn x;

    private ReadmeTest() {
    }

    public static void main(String[] args) throws IOException, ReflectiveOperationException {
        String readme = Files.readString(Path.of("README.md"), StandardCharsets.UTF_8);
        ReadmeTest test = new ReadmeTest();
        int blocks = 0;
        for (String block : readme.split("(?m)^```java$")) {
            if (blocks++ > 0) {
                test.block(block.substring(0, block.indexOf("```")));
            }
        }
        Due.holds("README.md has calls in it", blocks > 1);
        Due.end();
    }

    private void block(String lines) throws ReflectiveOperationException {
        for (String line : lines.strip().split("\n")) {
            line(line);
        }
    }

    private void line(String line) throws ReflectiveOperationException {
        Matcher call = CALL.matcher(line);
        Matcher typed = TYPED.matcher(line);
        if (line.equals(NEW)) {
            x = new FrozenIn();
        } else if (call.matches()) {
            Due.same("README.md: " + line, answer(call.group(1), call.group(2)), Long.parseLong(call.group(3)));
        } else if (typed.matches()) {
            Due.write(x, typed.group(1));
        } else {
            Due.holds("README.md tells a call in \"" + line + "\"", false);
        }
    }

    private long answer(String name, String told) throws ReflectiveOperationException {
        String[] numbers = told.isEmpty() ? new String[0] : told.split(", ");
        Class<?>[] types = new Class<?>[numbers.length];
        Object[] values = new Object[numbers.length];
        for (int i = 0; i < numbers.length; i++) {
            types[i] = int.class;
            values[i] = numbers[i].equals("FrozenIn.NONE") ? FrozenIn.NONE : Integer.parseInt(numbers[i]);
        }
        Method method = FrozenIn.class.getMethod(name, types);
        return ((Number) method.invoke(x, values)).longValue();
    }
}
