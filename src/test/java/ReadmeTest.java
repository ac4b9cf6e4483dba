import java.io.IOException;
import java.lang.reflect.InvocationTargetException;
import java.lang.reflect.Method;
import java.lang.reflect.Modifier;
import java.nio.file.DirectoryStream;
import java.nio.file.Files;
import java.nio.file.Path;
import java.util.ArrayList;
import java.util.List;
import java.util.TreeSet;
import java.util.regex.Matcher;
import java.util.regex.Pattern;

/** Does the calls that README.md shows, in their order, and compares the answers with those that it tells. */
public final class ReadmeTest {
    private static final Path README = Path.of("README.md");
    private static final Path TESTS = Path.of("src/test/java");
    private static final Pattern BLOCK = Pattern.compile("(?ms)^```java\n(.*?)^```$");
    private static final Pattern MAKING = Pattern.compile("(?:SmallCraft )?craft = new SmallCraft\\(\\);(?: +//.*)?");
    private static final Pattern TYPING = Pattern.compile("type\\(craft, \"([^\"]*)\"\\);(?: +//.*)?");
    private static final Pattern CALL = Pattern.compile(
        "craft\\.(\\w+)\\(([^()]*)\\); +// (NONE|true|false|-?\\d+|throws \\w+)(?:: .+)?");

    private static SmallCraft craft;
    private static final TreeSet<String> shown = new TreeSet<>();

    // README.md shows this one word by word: see helper().
    static void type(SmallCraft craft, String text) {
        int[] numbers = new int[(text.length() + 19) / 20 * 5];
        for (int i = 0; i < text.length(); i++) {
            numbers[i / 4] |= text.charAt(i) << 24 - i % 4 * 8;
        }
        for (int i = 0; i < numbers.length; i += 5) {
            craft.feed(numbers[i], numbers[i + 1], numbers[i + 2], numbers[i + 3], numbers[i + 4]);
        }
    }

    private static void fault(String text) {
        Check.due(text, false, true);
    }

    private static List<Method> face() {
        List<Method> found = new ArrayList<>();
        for (Method m : SmallCraft.class.getDeclaredMethods()) {
            if (Modifier.isPublic(m.getModifiers())) {
                found.add(m);
            }
        }
        return found;
    }

    private static Method methodOf(String name) {
        for (Method m : face()) {
            if (m.getName().equals(name)) {
                return m;
            }
        }
        return null;
    }

    private static Object[] numbersOf(String list) {
        String[] texts = list.split(",");
        Object[] numbers = new Object[texts.length];
        for (int i = 0; i < texts.length; i++) {
            String text = texts[i].trim();
            numbers[i] = text.equals("SmallCraft.NONE") ? Integer.valueOf(SmallCraft.NONE) : Integer.decode(text);
        }
        return numbers;
    }

    /** The answer in the words of README.md: a number, NONE if it is that, true, false, or what is thrown. */
    private static String answerOf(Method m, Object[] numbers) throws IllegalAccessException {
        try {
            Object answer = m.invoke(craft, numbers);
            return answer.equals(SmallCraft.NONE) ? "NONE" : answer.toString();
        } catch (InvocationTargetException e) {
            return "throws " + e.getCause().getClass().getSimpleName();
        }
    }

    private static void call(String line, Matcher parts) throws IllegalAccessException {
        Method m = methodOf(parts.group(1));
        Object[] numbers = numbersOf(parts.group(2));
        if (craft == null || m == null || m.getParameterCount() != numbers.length) {
            fault("README.md shows a call that can't be done: " + line);
            return;
        }
        String told = parts.group(3);
        String got = answerOf(m, numbers);
        Check.due("README.md: " + line + " (it answers " + got + "): as told", got.equals(told), true);
        shown.add(told.startsWith("throws ") ? m.getName() + " " + told : m.getName());
    }

    private static void line(String line) throws IllegalAccessException {
        Matcher typing = TYPING.matcher(line);
        Matcher call = CALL.matcher(line);
        if (MAKING.matcher(line).matches()) {
            craft = new SmallCraft();
        } else if (typing.matches() && craft != null) {
            type(craft, typing.group(1));
        } else if (call.matches()) {
            call(line, call);
        } else if (!line.isEmpty()) {
            fault("README.md shows a line that is no call with its answer: " + line);
        }
    }

    private static void helper(String block) throws IOException {
        String own = Files.readString(TESTS.resolve("ReadmeTest.java")).replaceAll("(?m)^    ", "");
        Check.due("README.md shows type() as it is used here", own.contains(block), true);
    }

    private static void calls(String readme) throws IOException, IllegalAccessException {
        Matcher blocks = BLOCK.matcher(readme);
        while (blocks.find()) {
            String block = blocks.group(1);
            if (block.startsWith("static ")) {
                helper(block);
            } else {
                for (String line : block.split("\n")) {
                    line(line.trim());
                }
            }
        }
    }

    /** Each method is told in a row of the table, and shown with an answer and with each exception that it declares. */
    private static void whole(String readme) {
        for (Method m : face()) {
            String name = m.getName();
            Check.due("README.md tells what " + name + " is for", readme.contains("\n| `" + name + "("), true);
            Check.due("README.md shows " + name + " with an answer", shown.contains(name), true);
            for (Class<?> thrown : m.getExceptionTypes()) {
                String throwing = name + " throws " + thrown.getSimpleName();
                Check.due("README.md shows " + throwing, shown.contains(throwing), true);
            }
        }
    }

    private static void tests(String readme) throws IOException {
        Check.due("README.md tells how the tests are run", readme.contains("`.ci/run`"), true);
        try (DirectoryStream<Path> files = Files.newDirectoryStream(TESTS, "*Test.java")) {
            for (Path file : files) {
                String name = file.getFileName().toString().replace(".java", "");
                Check.due("README.md tells of " + name, readme.contains("`" + name + "`"), true);
            }
        }
    }

    public static void main(String[] args) throws Exception {
        String readme = Files.readString(README);
        calls(readme);
        whole(readme);
        tests(readme);
        Check.end();
    }
}
