import java.lang.reflect.Method;
import java.nio.file.Files;
import java.nio.file.Path;
import java.util.ArrayList;
import java.util.List;
import java.util.Set;
import java.util.TreeSet;
import java.util.regex.Matcher;
import java.util.regex.Pattern;
import java.util.stream.Collectors;

/** README.md: its calls, taken as one program, answer what stands behind them, and none of the face is left out. */
final class ReadmeTest {
    private static final Pattern CALL = Pattern.compile("hall\\.(\\w+)\\((.*)\\); +// (-?\\w+).*");
    private static final Pattern BLOCK = Pattern.compile("(?s)```java\n(.*?)```");

    private BootHall hall;
    private int calls;
    private final Set<String> shown = new TreeSet<>();

    public static void main(String[] args) throws Exception {
        String readme = Files.readString(Path.of("README.md"));
        new ReadmeTest().program(readme);
        Check.due("the command of the tests", readme.contains("\n    .ci/run\n"), true);
        tests(readme);
        Check.finish();
    }

    private void program(String readme) throws Exception {
        Matcher block = BLOCK.matcher(readme);
        while (block.find()) {
            if (block.group(1).startsWith("static")) {
                isInCheck(block.group(1));
            } else {
                for (String line : block.group(1).split("\n")) {
                    line(line);
                }
            }
        }
        for (Method m : BootHall.class.getDeclaredMethods()) {
            Check.due("README.md shows " + m.getName(), java.lang.reflect.Modifier.isPrivate(m.getModifiers()) || shown.contains(m.getName()), true);
        }
        Check.due("no more calls than an object is good for", calls <= 512, true);
    }

    private void line(String line) throws Exception {
        if (line.equals("BootHall hall = new BootHall();")) {
            hall = new BootHall();
            return;
        }
        Matcher call = CALL.matcher(line);
        if (hall == null || !call.matches()) {
            Check.due("a call with its answer: " + line, false, true);
            return;
        }
        calls++;
        shown.add(call.group(1));
        Object got = answer(call.group(1), call.group(2));
        Check.due(line + " (" + got + ")", String.valueOf(got).equals(call.group(3)), true);
    }

    private Object answer(String name, String list) throws Exception {
        List<Object> numbers = new ArrayList<>();
        for (String number : list.isEmpty() ? new String[0] : list.split(", ")) {
            numbers.add(number.equals("BootHall.NONE") ? BootHall.NONE : Integer.decode(number));
        }
        Class<?>[] types = new Class<?>[numbers.size()];
        java.util.Arrays.fill(types, int.class);
        return BootHall.class.getMethod(name, types).invoke(hall, numbers.toArray());
    }

    /** How a string is fed: the tests do it by the same lines. */
    private static void isInCheck(String code) throws Exception {
        Set<String> lines = Files.readString(Path.of("src/test/java/Check.java")).lines().map(String::strip).collect(Collectors.toSet());
        for (String line : code.split("\n")) {
            Check.due("a line of Check: " + line, lines.contains(line.strip()), true);
        }
    }

    private static void tests(String readme) throws Exception {
        try (java.util.stream.Stream<Path> files = Files.list(Path.of("src/test/java"))) {
            for (Path file : files.toList()) {
                String name = file.getFileName().toString().replace(".java", "");
                Check.due("README.md tells of " + name, readme.contains("`" + name + "`"), true);
            }
        }
    }
}
