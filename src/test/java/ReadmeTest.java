import java.io.IOException;
import java.lang.reflect.InvocationTargetException;
import java.lang.reflect.Method;
import java.nio.file.Files;
import java.nio.file.Path;
import java.util.ArrayList;
import java.util.List;
import java.util.TreeSet;
import java.util.regex.Matcher;
import java.util.regex.Pattern;
import java.util.stream.Stream;

/** README.md: the answers in its run of calls are so, and it knows all tests; it is run in the project's folder. */
public final class ReadmeTest {
    private static final Pattern CALL =
            Pattern.compile("room\\.(\\w+)\\(([^)]*)\\);\\s*// (-?\\d+|Illegal\\w+Exception)(?:\\s.*|:.*|)");
    private static final Pattern CONSTANT = Pattern.compile("(?m)^\\| `([A-Z]+)` \\| (-?\\d+) \\|");
    private static final Pattern TEST_NAME = Pattern.compile("`(\\w+Test)`(?=[^|]*\\|)");

    public static void main(String[] args) throws IOException, ReflectiveOperationException {
        String page = Files.readString(Path.of("README.md"));
        runOfCalls(blockOf(page));
        constants(page);
        throwing(page);
        tests(page);
        Due.end("ReadmeTest");
    }

    private static List<String> blockOf(String page) {
        List<String> block = new ArrayList<>();
        int start = page.indexOf("```java\n");
        Due.same("a run of calls is there", start >= 0, true);
        Due.same("one run of calls", page.indexOf("```java", start + 1), -1);
        for (String line : page.substring(start + 8, page.indexOf("```", start + 8)).split("\n")) {
            if (!line.isBlank() && !line.startsWith("//")) {
                block.add(line);
            }
        }
        return block;
    }

    private static void runOfCalls(List<String> block) throws IllegalAccessException {
        CamStitch room = new CamStitch();
        Due.same("the first line", block.get(0), "CamStitch room = new CamStitch();");
        for (String line : block.subList(1, block.size())) {
            Matcher m = CALL.matcher(line);
            Due.same("a call and its answer: " + line, m.matches(), true);
            if (m.matches()) {
                Due.same(line, answerOf(room, m.group(1), m.group(2)), m.group(3));
            }
        }
        Due.same("a short run", block.size() > 40 && block.size() < 80, true);
    }

    private static String answerOf(CamStitch room, String name, String numbers) throws IllegalAccessException {
        Method method = methodOf(name);
        if (method == null) {
            return "no such method";
        }
        String[] words = numbers.isEmpty() ? new String[0] : numbers.split(",\\s*");
        Class<?>[] types = method.getParameterTypes();
        if (words.length != types.length) {
            return "another count of numbers";
        }
        Object[] given = new Object[words.length];
        for (int i = 0; i < words.length; i++) {
            if (types[i] == long.class) {
                given[i] = Long.parseLong(words[i]);
            } else {
                given[i] = Integer.parseInt(words[i]);
            }
        }
        try {
            return method.invoke(room, given).toString();
        } catch (InvocationTargetException e) {
            return e.getCause().getClass().getSimpleName();
        }
    }

    private static Method methodOf(String name) {
        for (Method method : CamStitch.class.getMethods()) {
            if (method.getName().equals(name)) {
                return method;
            }
        }
        return null;
    }

    private static void constants(String page) throws ReflectiveOperationException {
        Matcher m = CONSTANT.matcher(page);
        int seen = 0;
        while (m.find()) {
            seen++;
            Due.same(m.group(1), "" + CamStitch.class.getField(m.group(1)).getInt(null), m.group(2));
        }
        Due.due("constants below 0 on the page", seen, 9);
        Due.same("HOLDS", page.contains("`HOLDS` (" + CamStitch.HOLDS + ")"), true);
    }

    /** The sentence on which methods throw names those that the face says it of, and no others. */
    private static void throwing(String page) {
        Matcher sentence = Pattern.compile("Only ([^.]*) throw\\.").matcher(page);
        Due.same("the sentence is there", sentence.find(), true);
        TreeSet<String> told = new TreeSet<>();
        Matcher name = Pattern.compile("`(\\w+)`").matcher(sentence.group(1));
        while (name.find()) {
            told.add(name.group(1));
        }
        TreeSet<String> so = new TreeSet<>();
        for (Method method : CamStitch.class.getDeclaredMethods()) {
            if (method.getExceptionTypes().length > 0) {
                so.add(method.getName());
            }
        }
        Due.same("methods that throw", told, so);
    }

    private static void tests(String page) throws IOException {
        TreeSet<String> told = new TreeSet<>();
        Matcher m = TEST_NAME.matcher(page.substring(page.indexOf("| test |")));
        while (m.find()) {
            told.add(m.group(1));
        }
        TreeSet<String> there = new TreeSet<>();
        try (Stream<Path> files = Files.list(Path.of("src/test/java"))) {
            files.map(f -> f.getFileName().toString()).filter(f -> f.endsWith("Test.java"))
                    .forEach(f -> there.add(f.substring(0, f.length() - 5)));
        }
        Due.same("tests", told, there);
    }
}
