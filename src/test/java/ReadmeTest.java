import java.io.IOException;
import java.lang.reflect.Method;
import java.lang.reflect.Modifier;
import java.nio.file.Files;
import java.nio.file.Path;
import java.util.ArrayList;
import java.util.List;
import java.util.Set;
import java.util.TreeSet;
import java.util.regex.Matcher;
import java.util.regex.Pattern;
import java.util.stream.Stream;

/** README.md as things are: its example answers what it says, names every call, and the files it names are all there are. */
public final class ReadmeTest {
    private static final Pattern TELL = Pattern.compile("tell\\(x, \"([^\"]*)\"\\);");
    private static final Pattern CALL = Pattern.compile("x\\.(\\w+)\\(([^()]*)\\); +// (-?\\d+|[A-Z]+)(:.*)?");
    private static final Pattern SHIFT = Pattern.compile("(\\d+) << (\\d+)");

    private static final Set<String> called = new TreeSet<>();
    private static int wrong = 0;

    public static void main(String[] args) throws IOException, ReflectiveOperationException {
        List<String> readme = Files.readAllLines(Path.of("README.md"));
        example(blockWith(readme, "WhoseWork x = new WhoseWork();"));
        everyCall();
        files(String.join("\n", readme));
        System.out.println(wrong == 0 ? "README.md is as things are" : wrong + " things in README.md are not as due");
        if (wrong != 0) {
            System.exit(1);
        }
    }

    private static void due(boolean holds, String what) {
        if (!holds) {
            wrong++;
            System.out.println("README.md: " + what);
        }
    }

    /** The lines of a block behind the one it begins with. */
    private static List<String> blockWith(List<String> lines, String first) {
        List<String> block = new ArrayList<>();
        int from = lines.indexOf(first);
        due(from > 0 && lines.get(from - 1).equals("```java"), "a block begins with " + first);
        for (int i = from + 1; from >= 0 && i < lines.size() && !lines.get(i).equals("```"); i++) {
            block.add(lines.get(i));
        }
        return block;
    }

    private static void example(List<String> block) throws ReflectiveOperationException {
        WhoseWork x = new WhoseWork();
        for (String line : block) {
            Matcher tell = TELL.matcher(line);
            Matcher call = CALL.matcher(line);
            if (tell.matches()) {
                Sheet.tell(x, tell.group(1));
            } else if (call.matches()) {
                int got = answer(x, call.group(1), call.group(2));
                due(got == number(call.group(3)), "'" + line + "' answered " + got);
            } else {
                due(line.isEmpty() || line.startsWith("// "), "'" + line + "' is neither a call with its answer nor a heading");
            }
        }
    }

    private static int answer(WhoseWork x, String name, String row) throws ReflectiveOperationException {
        called.add(name);
        String[] told = row.isEmpty() ? new String[0] : row.split(", ");
        Object[] given = new Object[told.length];
        Class<?>[] kinds = new Class<?>[told.length];
        for (int i = 0; i < told.length; i++) {
            given[i] = number(told[i]);
            kinds[i] = int.class;
        }
        return (int) WhoseWork.class.getMethod(name, kinds).invoke(x, given);
    }

    private static int number(String words) throws ReflectiveOperationException {
        Matcher shift = SHIFT.matcher(words);
        if (shift.matches()) {
            return Integer.parseInt(shift.group(1)) << Integer.parseInt(shift.group(2));
        }
        String name = words.replace("WhoseWork.", "");
        return Character.isLetter(name.charAt(0)) ? WhoseWork.class.getField(name).getInt(null) : Integer.parseInt(name);
    }

    private static void everyCall() {
        // the helper that the page tells is the one place that writes
        called.add("write");
        for (Method method : WhoseWork.class.getDeclaredMethods()) {
            boolean open = Modifier.isPublic(method.getModifiers());
            due(!open || called.contains(method.getName()), "no call of " + method.getName());
        }
    }

    private static void files(String readme) throws IOException {
        Set<String> named = new TreeSet<>();
        Matcher path = Pattern.compile("`((?:src|\\.ci|\\.\\./shared)/[\\w/.]+|NOTES\\.md)`").matcher(readme);
        while (path.find()) {
            named.add(path.group(1));
            due(Files.exists(Path.of(path.group(1))), path.group(1) + " is not there");
        }
        try (Stream<Path> all = Files.walk(Path.of("src"))) {
            all.filter(Files::isRegularFile).map(Path::toString)
                .forEach(file -> due(named.contains(file), file + " is not named"));
        }
    }
}
