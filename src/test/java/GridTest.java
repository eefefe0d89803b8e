import java.lang.reflect.Method;
import java.util.ArrayList;
import java.util.List;
import java.util.Set;

/**
 * Every call with numbers at, just beyond and far beyond the limits that the document tells, in all
 * their combinations, on objects in several states; each answer, and what can be seen behind a call
 * that may change something, is compared with Model. So it also shows that no such call throws.
 */
public final class GridTest {
    private static final int MIN = Integer.MIN_VALUE, MAX = Integer.MAX_VALUE;
    /** Numbers for calls with that many parameters: fewer where there are more combinations. */
    private static final List<List<Integer>> NUMBERS = List.of(
        List.of(),
        List.of(MIN, -1, 0, 1, 2, 3, 4, 5, 7, 8, 9, 10, 15, 16, 17, 24, 25, 40, 41, 60, 61, 112, 255, 256, 1000000, MAX),
        List.of(MIN, -1, 0, 1, 2, 3, 4, 5, 6, 7, 8, 9, 15, 16, 60, 61, MAX),
        List.of(MIN, -1, 0, 1, 2, 3, 4, 5, 7, 8, 9, 40, 41, 60, 61, 999999, 1000000, MAX),
        List.of(MIN, -1, 0, 1, 2, 4, 5, 8, 9, 10, 11, 15, 16, 30, 31, MAX),
        List.of(MIN, -1, 0, 1, 3, 4, 5, 7, 8, 12, 13, 40, 41, MAX));
    private static final Set<String> CHANGING = Set.of("row", "set", "drop", "feed", "road", "hours", "put", "skip",
        "forget", "undo", "image", "restore", "as", "ask");
    private static final String ROWS = """
        row(0, 0, 5) = 5
        set(0, 0..4, 1) = 1
        row(1, 0, 40) = 40
        set(1, 0, 1) = 1
        row(3, 2, 13) = 13
        row(7, 1, 0) = 0
        """;
    private static final String ACTS = """
        hours(3) = 0
        image(0) = 1
        put(0, 1) = 0
        skip(1, 2) = 0
        hours(2) = 0
        forget(0) = 0
        ask(4, 1) = 0
        as(0, 5) = 0
        feed p4,0;r = 0
        """;
    /** What led to each state: calls alone, their answers are Model's to tell. */
    private static final List<String> STATES = List.of(
        "", ROWS, ROWS + "read EMPTY = 0\nhours(2) = 0\n", "read FIVE = 0\n" + ROWS + ACTS, ROWS + "read LONGEST = 0\n" + ACTS);
    private static final List<String> LOOKS = List.of("status() = 0", "fault() = 0", "count(0..9) = 0", "trace(0..6) = 0",
        "pulpit(0..4, 0..2) = 0", "stretch(0..8, 1) = 0", "undo() = 0", "restore(0..1) = 0", "pulpit(0..4, 0) = 0",
        "drop(0..7) = 0", "road() = 0");
    private static final Check CHECK = new Check();

    public static void main(String[] args) {
        List<EdgeLine.Call> looks = callsOf(String.join("\n", LOOKS));
        for (String state : STATES) {
            List<EdgeLine.Call> before = callsOf(state);
            for (Method method : Seen.face()) {
                if (CHANGING.contains(method.getName())) {
                    eachOnAnObjectOfItsOwn(before, method, looks);
                } else {
                    eachOnTheSame(before, method);
                }
            }
        }
        CHECK.end("GridTest");
    }

    private static List<EdgeLine.Call> callsOf(String lines) {
        List<EdgeLine.Call> calls = new ArrayList<>();
        for (EdgeLine.Step step : EdgeLine.steps(lines)) {
            calls.addAll(step.calls());
        }
        return calls;
    }

    private static int combinations(Method method) {
        int many = 1;
        for (int i = 0; i < method.getParameterCount(); i++) {
            many *= NUMBERS.get(method.getParameterCount()).size();
        }
        return many;
    }

    /** The combination's number tells which of the numbers each parameter has, as figures do. */
    private static EdgeLine.Call callWith(Method method, int combination) {
        List<Integer> numbers = NUMBERS.get(method.getParameterCount());
        List<Integer> args = new ArrayList<>();
        int rest = combination;
        for (int i = 0; i < method.getParameterCount(); i++) {
            args.add(numbers.get(rest % numbers.size()));
            rest /= numbers.size();
        }
        return new EdgeLine.Call(method.getName(), args);
    }

    private static void eachOnAnObjectOfItsOwn(List<EdgeLine.Call> before, Method method, List<EdgeLine.Call> looks) {
        for (int k = 0; k < combinations(method); k++) {
            EdgeLine.Call call = callWith(method, k);
            Pair pair = new Pair(before);
            pair.due(call, "");
            String behind = " behind " + call;
            for (EdgeLine.Call look : looks) {
                pair.due(look, behind);
            }
        }
    }

    private static void eachOnTheSame(List<EdgeLine.Call> before, Method method) {
        Pair pair = new Pair(before);
        EdgeLine.Call status = new EdgeLine.Call("status", List.of());
        for (int k = 0; k < combinations(method); k++) {
            EdgeLine.Call call = callWith(method, k);
            if (pair.left < 2) {
                pair = new Pair(before);
            }
            pair.due(call, "");
            pair.due(status, " behind a call");
        }
    }

    private static final class Pair {
        private final PulpitRoads x = new PulpitRoads();
        private final Model model = new Model();
        private int left = Seen.MOST_CALLS;

        Pair(List<EdgeLine.Call> before) {
            for (EdgeLine.Call call : before) {
                due(call, "");
            }
        }

        void due(EdgeLine.Call call, String where) {
            left--;
            int want = model.call(call.name(), call.args().stream().mapToInt(v -> v).toArray());
            CHECK.due(call, where, Seen.call(x, call), want);
        }
    }
}
