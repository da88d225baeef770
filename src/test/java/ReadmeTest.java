import java.io.IOException;
import java.lang.reflect.Method;
import java.nio.file.Files;
import java.nio.file.Path;
import java.util.regex.Matcher;
import java.util.regex.Pattern;

/** The calls that README.md shows answer what it says behind them, and the text is as it says then. */
public final class ReadmeTest {
    private static final Pattern TYPED = Pattern.compile("type\\(x, \"(.*)\"\\);");
    private static final Pattern CALLED = Pattern.compile("x\\.(\\w+)\\((.*)\\); +// (NONE|'.'|\\d+)(.*)");
    private static final Pattern TEXT = Pattern.compile(".*the text is ([^;]*?)( again)?");

    private final Check check = new Check();
    private Lineorders x;
    private int shown;

    public static void main(String[] args) throws IOException, ReflectiveOperationException {
        ReadmeTest test = new ReadmeTest();
        test.check.topic("README.md");
        boolean isCode = false;
        for (String line : Files.readAllLines(Path.of("README.md"))) {
            if (line.startsWith("```")) {
                isCode = line.equals("```java");
            } else if (isCode) {
                test.line(line);
            }
        }
        test.check.holds("it shows calls", test.shown >= 20);
        System.exit(test.check.close());
    }

    private void line(String line) throws ReflectiveOperationException {
        Matcher typed = TYPED.matcher(line);
        Matcher called = CALLED.matcher(line);
        if (line.equals("Lineorders x = new Lineorders();")) {
            x = new Lineorders();
        } else if (typed.matches()) {
            x.wipe();
            for (char sign : typed.group(1).toCharArray()) {
                x.type(sign);
            }
        } else if (called.matches()) {
            shown++;
            check.same(line, due(called.group(3)), answer(called.group(1), called.group(2)));
            Matcher text = TEXT.matcher(called.group(4));
            if (text.matches()) {
                check.same(line, text.group(1), text());
            }
        } else {
            check.holds("a line that is no call: " + line, line.isEmpty() || !line.contains("x.") || line.startsWith("  "));
        }
    }

    private static int due(String shown) {
        if (shown.equals("NONE")) {
            return Lineorders.NONE;
        }
        return shown.charAt(0) == '\'' ? shown.charAt(1) : Integer.parseInt(shown);
    }

    private int answer(String name, String shown) throws ReflectiveOperationException {
        String[] words = shown.isEmpty() ? new String[0] : shown.split(", ");
        Class<?>[] types = new Class<?>[words.length];
        Object[] values = new Object[words.length];
        for (int i = 0; i < words.length; i++) {
            boolean isTruth = words[i].equals("true") || words[i].equals("false");
            types[i] = isTruth ? boolean.class : int.class;
            values[i] = isTruth ? (Object) Boolean.valueOf(words[i]) : (Object) Integer.valueOf(words[i]);
        }
        Method method = Lineorders.class.getMethod(name, types);
        return (Integer) method.invoke(x, values);
    }

    private String text() {
        StringBuilder all = new StringBuilder();
        for (int line = 1; line <= x.lines(); line++) {
            all.append(line == 1 ? "" : ", ");
            for (int place = 0; place < x.length(line); place++) {
                all.append((char) x.at(line, place));
            }
        }
        return all.toString();
    }
}
