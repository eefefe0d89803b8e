import java.io.IOException;
import java.lang.reflect.Method;
import java.nio.file.Files;
import java.nio.file.Path;
import java.util.ArrayList;
import java.util.List;
import java.util.Set;
import java.util.TreeSet;
import java.util.regex.Matcher;
import java.util.regex.Pattern;
import java.util.stream.Collectors;
import java.util.stream.Stream;

/**
 * What README.md says is so: its examples answer what stands beside them, its tables name every call
 * with its parameters and every test. Its third argument is the path of README.md.
 */
public final class ReadmeTest {
    private static final Pattern FED = Pattern.compile("\"([^\"]*)\"\\.toCharArray");
    private static final Pattern CALLED = Pattern.compile("x\\.(\\w+)\\(([^)]*)\\); +// (-?\\w+):.*");
    private static final Check CHECK = new Check();

    public static void main(String[] args) throws IOException {
        Path page = Path.of(args[2]).toAbsolutePath();
        String text = Files.readString(page);
        Matcher block = Pattern.compile("(?s)```java\n(.*?)```").matcher(text);
        int many = 0;
        while (block.find()) {
            example(block.group(1));
            many++;
        }
        CHECK.due("examples", many, 3);
        calls(text);
        tests(text, page.resolveSibling("src/test/java"));
        CHECK.end("ReadmeTest");
    }

    private static void example(String block) {
        PulpitRoads x = new PulpitRoads();
        for (String line : block.split("\n")) {
            Matcher fed = FED.matcher(line);
            Matcher called = CALLED.matcher(line);
            if (fed.find()) {
                fed.group(1).chars().forEach(x::feed);
            } else if (called.matches()) {
                List<Integer> numbers = new ArrayList<>();
                for (String number : called.group(2).isEmpty() ? new String[0] : called.group(2).split(", ")) {
                    numbers.add(Integer.parseInt(number));
                }
                EdgeLine.Call call = new EdgeLine.Call(called.group(1), numbers);
                CHECK.due(line, Seen.call(x, call), EdgeLine.number(called.group(3)));
            } else {
                CHECK.due(line + " is no call", line.matches("PulpitRoads x = .*|    x\\.feed\\(c\\);|}") ? 1 : 0, 1);
            }
        }
    }

    /** The face once more, as the first column of the tables has it. */
    private static void calls(String text) {
        Set<String> told = firstColumn(text, "(\\w+)\\(([\\w, ]*)\\)");
        Set<String> there = new TreeSet<>();
        for (Method method : Seen.face()) {
            there.add(method.getName() + method.getParameterCount());
        }
        Set<String> counted = new TreeSet<>();
        for (String call : told) {
            String inside = call.substring(call.indexOf('(') + 1, call.length() - 1);
            counted.add(call.substring(0, call.indexOf('(')) + (inside.isEmpty() ? 0 : inside.split(", ").length));
        }
        CHECK.due("calls told " + counted + " of " + there, counted.equals(there) ? 1 : 0, 1);
    }

    private static void tests(String text, Path folder) throws IOException {
        Set<String> told = firstColumn(text, "\\w+Test");
        Set<String> there;
        try (Stream<Path> files = Files.list(folder)) {
            there = files.map(file -> file.getFileName().toString())
                .filter(name -> name.endsWith("Test.java"))
                .map(name -> name.replace(".java", ""))
                .collect(Collectors.toCollection(TreeSet::new));
        }
        CHECK.due("tests told " + told + " of " + there, told.equals(there) ? 1 : 0, 1);
    }

    private static Set<String> firstColumn(String text, String form) {
        Matcher row = Pattern.compile("(?m)^\\| `(" + form + ")` \\|").matcher(text);
        Set<String> column = new TreeSet<>();
        while (row.find()) {
            column.add(row.group(1));
        }
        return column;
    }
}
