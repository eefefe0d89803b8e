import java.util.ArrayList;
import java.util.List;
import java.util.Map;

/**
 * A line of an edge: a call (or calls), then " = " and the answers that are due.
 *
 * <pre>
 * put(0, 3) = 1               a call
 * row(-1|8, 0, 1) = BAD       a call for each of several numbers
 * kind(0..4) = 1 2 3 4 5      a call for each number of a stretch of them, an answer each
 * set(!0..7, 0, 0) = BAD      a call for MIN, -1, 8, MAX: all that is just beyond, and far beyond
 * hours(24) = 0 x416          the same call 416 times
 * feed p4,0; = 5              the text comes byte by byte, the answer is that of the last one
 * read ROUND = 1              the same with road() behind it, here with a text that has a name
 * </pre>
 */
final class EdgeLine {
    record Call(String name, List<Integer> args) {
        @Override
        public String toString() {
            return name + args.toString().replace('[', '(').replace(']', ')');
        }
    }

    /** Calls of which the last one has the answer that is due; of a call made many times the last one is looked behind. */
    record Step(String line, List<Call> calls, int want, boolean isLookedBehind) {
        Call last() {
            return calls.get(calls.size() - 1);
        }
    }

    private static final Map<String, String> TEXTS = Map.of(
        "ROUND", "p4,1;r0;r1;r2;b0,0;",
        "FIVE", "p8,5;r0;r1;r2;r0;b0,0;k2,3;y3,4;d1,7;e0,2;",
        "EMPTY", "p4,0;r0;r1;r2;",
        "NINE", "p4,0;r0;r0;r0;r0;r0;r0;r0;r0;r0;b0,0;",
        "LONGEST", "p16,15;r00;r01;r02;r00;r01;r02;r00;r01;r02;b08,15;k07,14;y06,13;d05,12;e04,11;");

    private static final Map<String, Integer> NAMED = Map.ofEntries(
        Map.entry("NONE", Check.NONE), Map.entry("BAD", Check.BAD), Map.entry("STATE", Check.STATE),
        Map.entry("FULL", Check.FULL), Map.entry("NULL", Check.NULL), Map.entry("PLACE", Check.PLACE),
        Map.entry("KIND", Check.KIND), Map.entry("SIZE", Check.SIZE), Map.entry("STORE", Check.STORE),
        Map.entry("MIN", Integer.MIN_VALUE), Map.entry("MAX", Integer.MAX_VALUE));

    private EdgeLine() {
    }

    static List<Step> steps(String lines) {
        List<Step> steps = new ArrayList<>();
        for (String line : lines.split("\n")) {
            if (!line.isBlank() && !line.strip().startsWith("#")) {
                addSteps(line.strip(), steps);
            }
        }
        return steps;
    }

    private static void addSteps(String line, List<Step> steps) {
        int cut = line.lastIndexOf(" = ");
        String left = line.substring(0, cut).strip();
        List<String> wants = new ArrayList<>(List.of(line.substring(cut + 3).strip().split(" +")));
        int times = 1;
        if (wants.get(wants.size() - 1).startsWith("x")) {
            times = Integer.parseInt(wants.remove(wants.size() - 1).substring(1));
        }
        List<List<Call>> calls = callsOf(left);
        if (wants.size() != 1 && wants.size() != calls.size()) {
            throw new IllegalArgumentException(calls.size() + " calls: " + line);
        }
        for (int t = 0; t < times; t++) {
            for (int i = 0; i < calls.size(); i++) {
                int want = number(wants.get(wants.size() == 1 ? 0 : i));
                steps.add(new Step(line, calls.get(i), want, t == times - 1));
            }
        }
    }

    private static List<List<Call>> callsOf(String left) {
        if (left.startsWith("feed ") || left.startsWith("read ") || left.equals("read")) {
            String text = left.substring(4).strip();
            List<Call> calls = new ArrayList<>();
            for (char c : TEXTS.getOrDefault(text, text).toCharArray()) {
                calls.add(new Call("feed", List.of((int) c)));
            }
            if (left.startsWith("read")) {
                calls.add(new Call("road", List.of()));
            }
            return List.of(calls);
        }
        int open = left.indexOf('(');
        String name = left.substring(0, open);
        String inside = left.substring(open + 1, left.length() - 1);
        List<List<Integer>> rows = new ArrayList<>();
        rows.add(List.of());
        for (String arg : inside.isBlank() ? new String[0] : inside.split(",")) {
            rows = eachWith(rows, numbers(arg.strip()));
        }
        List<List<Call>> calls = new ArrayList<>();
        for (List<Integer> row : rows) {
            calls.add(List.of(new Call(name, row)));
        }
        return calls;
    }

    private static List<List<Integer>> eachWith(List<List<Integer>> rows, List<Integer> numbers) {
        List<List<Integer>> longer = new ArrayList<>();
        for (List<Integer> row : rows) {
            for (int number : numbers) {
                List<Integer> one = new ArrayList<>(row);
                one.add(number);
                longer.add(one);
            }
        }
        return longer;
    }

    private static List<Integer> numbers(String arg) {
        List<Integer> numbers = new ArrayList<>();
        for (String part : arg.split("\\|")) {
            boolean beyond = part.startsWith("!");
            String[] ends = part.substring(beyond ? 1 : 0).split("\\.\\.");
            int from = number(ends[0]);
            int to = number(ends[ends.length - 1]);
            if (beyond) {
                numbers.addAll(List.of(Integer.MIN_VALUE, from - 1, to + 1, Integer.MAX_VALUE));
                continue;
            }
            for (long n = from; n <= to; n++) {
                numbers.add((int) n);
            }
        }
        return numbers;
    }

    static int number(String text) {
        if (text.startsWith("FAULT")) {
            return -1000100 - Integer.parseInt(text.substring(5));
        }
        Integer named = NAMED.get(text);
        return named != null ? named : Integer.parseInt(text);
    }
}
