import java.lang.reflect.Method;
import java.lang.reflect.Modifier;
import java.util.ArrayList;
import java.util.LinkedHashMap;
import java.util.List;
import java.util.Map;
import java.util.TreeMap;

/**
 * All that can be seen of an object behind some calls, part by part. Much of it can be seen only by
 * calls that change it (undo, restore, road, drop), so each look is at an object of its own, on
 * which the calls are made anew.
 */
final class Seen {
    static final int MOST_CALLS = 512;
    private static final String READER = "p4,0;r0;r0;r0;r0;r0;r0;r0;r0;r0;b0,0;";
    private static final Map<String, Method> FACE = new TreeMap<>();

    static {
        for (Method m : PulpitRoads.class.getDeclaredMethods()) {
            if (Modifier.isPublic(m.getModifiers())) {
                FACE.put(m.getName(), m);
            }
        }
    }

    /** One object, and its answers. What it would answer behind its last call is free, and not looked at. */
    private static final class Look {
        private final PulpitRoads x = new PulpitRoads();
        private final List<Integer> answers = new ArrayList<>();
        private int left = MOST_CALLS;

        Look(List<EdgeLine.Call> calls) {
            for (EdgeLine.Call call : calls) {
                Seen.call(x, call);
                left--;
            }
        }

        int ask(String name, Integer... args) {
            if (left == 0) {
                return Check.NONE;
            }
            left--;
            return Seen.call(x, new EdgeLine.Call(name, List.of(args)));
        }

        int see(String name, Integer... args) {
            int answer = ask(name, args);
            if (left > 0) {
                answers.add(answer);
            }
            return answer;
        }

        void seeRoad() {
            for (int what : new int[] {1, 2, 3, 4, 5, 6, 8, 9}) {
                see("count", what);
            }
            for (int p = 0; p < 5; p++) {
                see("kind", p);
                for (int what = 0; what < 4; what++) {
                    see("pulpit", p, what);
                }
            }
            for (int s = 0; s < 9; s++) {
                for (int what = 0; what < 3; what++) {
                    see("stretch", s, what);
                }
            }
        }
    }

    /** The public methods, by their names. */
    static List<Method> face() {
        return new ArrayList<>(FACE.values());
    }

    private final List<EdgeLine.Call> calls;
    private final Map<String, List<List<Integer>>> parts = new LinkedHashMap<>();

    Seen(List<EdgeLine.Call> calls) {
        this.calls = new ArrayList<>(calls);
        seeRoad();
        seeActs();
        seeImage("image 0", 0);
        seeImage("image 1", 1);
        seeTape();
        seeRows();
        seeSmall();
    }

    static int call(PulpitRoads x, EdgeLine.Call call) {
        try {
            return (Integer) FACE.get(call.name()).invoke(x, call.args().toArray());
        } catch (ReflectiveOperationException e) {
            throw new IllegalStateException(call.toString(), e);
        }
    }

    /** Parts that are not as in another one; of a look that ended early only what both saw counts. */
    List<String> partsUnlike(Seen other) {
        List<String> unlike = new ArrayList<>();
        for (String part : parts.keySet()) {
            List<List<Integer>> mine = parts.get(part);
            List<List<Integer>> others = other.parts.get(part);
            for (int i = 0; i < Math.min(mine.size(), others.size()); i++) {
                int n = Math.min(mine.get(i).size(), others.get(i).size());
                if (!mine.get(i).subList(0, n).equals(others.get(i).subList(0, n))) {
                    unlike.add(part);
                    break;
                }
            }
        }
        return unlike;
    }

    int status() {
        List<Integer> answers = parts.get("status").get(0);
        return answers.isEmpty() ? Check.NONE : answers.get(0);
    }

    private Look look(String part) {
        Look look = new Look(calls);
        parts.computeIfAbsent(part, p -> new ArrayList<>()).add(look.answers);
        return look;
    }

    private void seeSmall() {
        look("status").see("status");
        look("fault").see("fault");
        Look trace = look("trace");
        for (int i = 0; i < 18; i++) {
            trace.see("trace", i);
        }
    }

    private void seeRoad() {
        look("road").seeRoad();
    }

    private void seeActs() {
        for (int many = 1; many <= 25; many++) {
            Look look = look("acts");
            int answer = 0;
            for (int i = 0; i < many; i++) {
                answer = look.see("undo");
            }
            if (answer < 0) {
                return;
            }
            look.seeRoad();
        }
    }

    private void seeImage(String part, int k) {
        Look look = look(part);
        if (look.see("restore", k) == 1) {
            look.seeRoad();
        }
    }

    private void seeTape() {
        Look look = look("tape");
        look.see("count", 7);
        if (look.see("road") >= 0) {
            look.seeRoad();
        } else {
            look.see("fault");
        }
    }

    private void seeRows() {
        look("rows").see("count", 0);
        for (int row = 0; row < 8; row++) {
            seeRow(look("rows"), row);
        }
    }

    /** Items can be told from one another as places where a box is in an hour; lanes by what may be copied. */
    private void seeRow(Look look, int row) {
        if (look.ask("count", 7) > 0) {
            look.ask("road");
        }
        for (int i = 0; i < READER.length(); i++) {
            look.ask("feed", (int) READER.charAt(i));
        }
        look.ask("road");
        for (int i = 0; i <= 40; i++) {
            if (look.see("fits", 0, row, i, 1, 1) < 0) {
                break;
            }
        }
        int other = (row + 1) % 8;
        for (int lane = 0; lane < 2; lane++) {
            look.ask("row", other, lane, 0);
            look.see("copy", row, 0, other, 0, 0);
        }
        look.see("drop", row);
    }
}
