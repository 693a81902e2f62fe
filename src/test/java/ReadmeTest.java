import java.io.IOException;
import java.lang.reflect.Method;
import java.lang.reflect.Modifier;
import java.nio.file.Files;
import java.nio.file.Path;
import java.util.List;
import java.util.Set;
import java.util.TreeSet;
import java.util.regex.Matcher;
import java.util.regex.Pattern;
import java.util.stream.Collectors;
import java.util.stream.Stream;

/** The calls that README.md shows have the answers that it names; it shows every call and lists every test. */
public final class ReadmeTest {
    private static final Pattern MAKING = Pattern.compile("ForkDesk desk = new ForkDesk\\((-?\\d+)\\);.*");
    private static final Pattern CALL =
            Pattern.compile("desk\\.(\\w+)\\((-?\\d+(?:, -?\\d+)*)\\); +// (true|false|-?\\d+)(?:: .*)?");

    private final Checks checks = new Checks();
    private final Set<String> shown = new TreeSet<>();
    private ForkDesk desk = null;

    /** The project's root is the working directory, as .ci/run sees to. */
    public static void main(String[] args) throws IOException, ReflectiveOperationException {
        List<String> lines = Files.readAllLines(Path.of("README.md"));
        ReadmeTest test = new ReadmeTest();
        test.shownCalls(lines);
        test.everyCallIsShown();
        test.everyTestIsListed(lines);
        test.checks.end();
    }

    private void shownCalls(List<String> lines) throws ReflectiveOperationException {
        boolean inCode = false;
        for (String line : lines) {
            if (line.startsWith("```")) {
                inCode = line.equals("```java");
            } else if (inCode) {
                shownLine(line);
            }
        }
    }

    private void shownLine(String line) throws ReflectiveOperationException {
        Matcher making = MAKING.matcher(line);
        Matcher call = CALL.matcher(line);
        if (making.matches()) {
            desk = new ForkDesk(Integer.parseInt(making.group(1)));
        } else if (desk != null && call.matches()) {
            String name = call.group(1);
            shown.add(name);
            checks.due(line, String.valueOf(answer(name, call.group(2).split(", "))), call.group(3));
        } else {
            checks.due("a line that is a call with its answer: " + line, false, true);
        }
    }

    private Object answer(String name, String[] texts) throws ReflectiveOperationException {
        Class<?>[] types = new Class<?>[texts.length];
        Object[] given = new Object[texts.length];
        for (int i = 0; i < texts.length; i++) {
            types[i] = int.class;
            given[i] = Integer.valueOf(texts[i]);
        }
        return ForkDesk.class.getMethod(name, types).invoke(desk, given);
    }

    private void everyCallIsShown() {
        Set<String> names = new TreeSet<>();
        for (Method method : ForkDesk.class.getDeclaredMethods()) {
            if (Modifier.isPublic(method.getModifiers())) {
                names.add(method.getName());
            }
        }
        checks.due("the calls shown", shown.toString(), names.toString());
    }

    private void everyTestIsListed(List<String> lines) throws IOException {
        Set<String> listed = lines.stream().filter(line -> line.matches("- `\\w+Test`: .*"))
                .map(line -> line.replaceAll("- `(\\w+)`: .*", "$1.java"))
                .collect(Collectors.toCollection(TreeSet::new));
        try (Stream<Path> files = Files.list(Path.of("src/test/java"))) {
            Set<String> tests = files.map(file -> file.getFileName().toString())
                    .filter(name -> name.endsWith("Test.java"))
                    .collect(Collectors.toCollection(TreeSet::new));
            checks.due("the tests listed", listed.toString(), tests.toString());
        }
    }
}
