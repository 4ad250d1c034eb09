import java.io.IOException;
import java.lang.reflect.Method;
import java.lang.reflect.Modifier;
import java.nio.file.Files;
import java.nio.file.Path;
import java.util.List;
import java.util.regex.Matcher;
import java.util.regex.Pattern;
import java.util.stream.Stream;

/** What README.md says is so: its calls are made and answer what stands behind them; it names every test there is. */
public final class ReadmeTest {
    private static final Pattern TELLS = Pattern.compile("for \\(char c : \"([^\"]*)\"\\.toCharArray\\(\\)\\) x\\.feed\\(c\\);");
    private static final Pattern CALL = Pattern.compile("x\\.(\\w+)\\((.*)\\);\\s+// (-?\\w+): .*");
    private static final Pattern NAMED = Pattern.compile("`(\\w+(?:Test|Edges))`");

    private ReadmeTest() {
    }

    public static void main(String[] args) throws IOException, ReflectiveOperationException {
        String page = Files.readString(Path.of("README.md"));
        Matcher block = Pattern.compile("(?s)```java\\n(.*?)```").matcher(page);
        int blocks = 0;
        while (block.find()) {
            blocks++;
            runs(block.group(1).lines().toList());
        }
        Due.is("runs of calls on the page", blocks, 3);
        namesTests(page);
        saysConstants(page);
        Due.end();
    }

    private static void runs(List<String> lines) throws ReflectiveOperationException {
        TomorrowBells x = null;
        for (String line : lines) {
            Matcher tells = TELLS.matcher(line);
            Matcher call = CALL.matcher(line);
            if (line.equals("TomorrowBells x = new TomorrowBells();")) {
                x = new TomorrowBells();
            } else if (tells.matches()) {
                Due.feed(x, tells.group(1));
            } else if (call.matches()) {
                Due.is(line, answer(x, call.group(1), call.group(2)), number(call.group(3)));
            } else {
                Due.holds("a line that is understood: " + line, line.startsWith("// "));
            }
        }
    }

    private static int answer(TomorrowBells x, String name, String given) throws ReflectiveOperationException {
        String[] numbers = given.isEmpty() ? new String[0] : given.split(", ");
        for (Method m : TomorrowBells.class.getMethods()) {
            if (m.getName().equals(name) && Modifier.isPublic(m.getModifiers())) {
                Object[] args = new Object[numbers.length];
                for (int i = 0; i < numbers.length; i++) {
                    args[i] = m.getParameterTypes()[i] == boolean.class ? (Object) numbers[i].equals("true") : (Object) number(numbers[i]);
                }
                return (int) m.invoke(x, args);
            }
        }
        throw new NoSuchMethodException(name);
    }

    private static int number(String word) throws ReflectiveOperationException {
        String name = word.replace("TomorrowBells.", "");
        return name.matches("[A-Z]+") ? TomorrowBells.class.getField(name).getInt(null) : Integer.parseInt(name);
    }

    private static void namesTests(String page) throws IOException {
        try (Stream<Path> files = Files.list(Path.of("src/test/java"))) {
            for (Path file : files.toList()) {
                String name = file.getFileName().toString().replace(".java", "");
                Due.holds("the page names " + name, !name.matches(".*(Test|Edges)") || page.contains("`" + name + "`"));
            }
        }
        Matcher named = NAMED.matcher(page);
        while (named.find()) {
            Due.holds("there is " + named.group(1), Files.exists(Path.of("src/test/java/" + named.group(1) + ".java")));
        }
    }

    private static void saysConstants(String page) {
        for (String constant : new String[] {"UNKNOWN", "OUTSIDE", "NOT", "FULL"}) {
            Due.holds("the page tells what " + constant + " is", page.contains("| `" + constant + "`"));
        }
    }
}
