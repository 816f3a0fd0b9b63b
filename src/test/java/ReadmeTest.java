import java.io.IOException;
import java.lang.reflect.InvocationTargetException;
import java.lang.reflect.Method;
import java.lang.reflect.Modifier;
import java.nio.file.Files;
import java.nio.file.Path;
import java.util.ArrayList;
import java.util.HashMap;
import java.util.List;
import java.util.Map;
import java.util.NoSuchElementException;
import java.util.regex.Matcher;
import java.util.regex.Pattern;

/** README.md: its examples answer what stands behind them, and it names every call. */
public final class ReadmeTest {
    private static final Pattern CALL = Pattern.compile(
        "(?:int (\\w+) = )?bank\\.(\\w+)\\(([^)]*)\\);\\s*// (-?\\d+|true|false|NoSuchElementException)\\b.*");
    private static final Pattern FEED = Pattern.compile("feed\\(bank, \"([^\"]*)\"\\);\\s*// (\\d+)\\b.*");

    public static void main(String[] args) throws IOException, ReflectiveOperationException {
        List<String> readme = Files.readAllLines(Path.of("README.md"));
        int examples = 0;
        for (List<String> block : blocksOf(readme)) {
            if (block.get(0).equals("PennyBank bank = new PennyBank();")) {
                runExample(block);
                examples++;
            } else {
                standsInCheck(block);
            }
        }
        Check.due("README.md has examples", examples > 0, true);
        everyCallIsNamed(String.join("\n", readme));
        Check.end();
    }

    private static List<List<String>> blocksOf(List<String> readme) {
        List<List<String>> blocks = new ArrayList<>();
        List<String> open = null;
        for (String line : readme) {
            if (open == null && line.equals("```java")) {
                open = new ArrayList<>();
            } else if (open != null && line.equals("```")) {
                blocks.add(open);
                open = null;
            } else if (open != null) {
                open.add(line);
            }
        }
        Check.due("each block of README.md is closed", open == null, true);
        return blocks;
    }

    private static void runExample(List<String> block) throws ReflectiveOperationException {
        PennyBank bank = new PennyBank();
        Map<String, Long> named = new HashMap<>();
        for (String line : block.subList(1, block.size())) {
            Matcher call = CALL.matcher(line);
            Matcher feed = FEED.matcher(line);
            if (feed.matches()) {
                Check.due(line, Check.feed(bank, feed.group(1)), Long.parseLong(feed.group(2)));
            } else if (call.matches()) {
                String got = answerOf(bank, call.group(2), numbersOf(call.group(3), named));
                Check.due(line + " answered " + got + ":", got.equals(call.group(4)), true);
                if (call.group(1) != null) {
                    named.put(call.group(1), Long.valueOf(got));
                }
            } else {
                Check.due("a call with its answer: " + line, false, true);
            }
        }
    }

    private static long[] numbersOf(String arguments, Map<String, Long> named) {
        String[] told = arguments.isEmpty() ? new String[0] : arguments.split(", ");
        long[] numbers = new long[told.length];
        for (int i = 0; i < told.length; i++) {
            numbers[i] = named.containsKey(told[i]) ? named.get(told[i]) : Long.parseLong(told[i]);
        }
        return numbers;
    }

    private static String answerOf(PennyBank bank, String name, long[] numbers) throws ReflectiveOperationException {
        Method method = methodOf(name);
        Object[] arguments = new Object[numbers.length];
        for (int i = 0; i < numbers.length; i++) {
            arguments[i] = (int) numbers[i];
        }
        try {
            return String.valueOf(method.invoke(bank, arguments));
        } catch (InvocationTargetException e) {
            if (e.getCause() instanceof NoSuchElementException) {
                return "NoSuchElementException";
            }
            throw e;
        }
    }

    private static Method methodOf(String name) throws NoSuchMethodException {
        for (Method method : PennyBank.class.getDeclaredMethods()) {
            if (method.getName().equals(name)) {
                return method;
            }
        }
        throw new NoSuchMethodException(name);
    }

    /** What README.md tells to feed a text by is what the tests feed theirs by. */
    private static void standsInCheck(List<String> block) throws IOException {
        List<String> lines = new ArrayList<>();
        for (String line : Files.readAllLines(Path.of("src/test/java/Check.java"))) {
            lines.add(line.trim());
        }
        for (String line : block) {
            Check.due("it stands in Check.java: " + line, lines.contains(line.trim()), true);
        }
    }

    private static void everyCallIsNamed(String readme) {
        for (Method method : PennyBank.class.getDeclaredMethods()) {
            if (Modifier.isPublic(method.getModifiers())) {
                Check.due("README.md's table has " + method.getName(), readme.contains("| `" + method.getName() + "("), true);
            }
        }
    }
}
