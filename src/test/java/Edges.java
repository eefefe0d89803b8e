import java.util.ArrayList;
import java.util.List;
import java.util.Set;

/**
 * Edges of the document: each is a sentence of it, and calls on a new object with the answers that
 * it asks for (EdgeLine tells how they are written).
 *
 * <p>Behind every call all that can be seen of the object is looked at: what is refused may change
 * nothing (a finding: status() alone), what is foretold or asked nothing but what is told of it, and
 * an act nothing but the road and its acts. The same answers are asked of Model.
 */
final class Edges {
    private static final Set<String> ROW_CALLS = Set.of("row", "set", "copy", "drop");
    private static final Set<String> ACT_CALLS = Set.of("hours", "put", "skip", "forget", "undo", "restore");

    /** A sentence that an edge quotes, and the part of the document that it stands in. */
    record Quote(String where, String sentence) {
        String part() {
            return where.replaceAll(",.*", "");
        }

        /** Words that are left out of a quote are told as [..] in it. */
        List<String> pieces() {
            return List.of(sentence.split(" \\[\\.\\.\\] ?"));
        }
    }

    private static List<Quote> noted;

    private final Check check = new Check();
    private int many;

    /** From now on edges are not run, but their quotes are noted. */
    static List<Quote> noteOnly() {
        noted = new ArrayList<>();
        return noted;
    }

    void edge(String where, String sentence, String lines) {
        if (noted != null) {
            noted.add(new Quote(where, sentence));
            return;
        }
        many++;
        new Run(where + ": \"" + sentence + "\"").go(EdgeLine.steps(lines));
    }

    void end(String name) {
        if (noted != null) {
            return;
        }
        check.end(name + ", " + many + " edges");
    }

    private final class Run {
        private final String label;
        private final PulpitRoads x = new PulpitRoads();
        private final Model model = new Model();
        /** The calls that changed something: those that did not are no part of what led here. */
        private final List<EdgeLine.Call> history = new ArrayList<>();
        private Seen seen = new Seen(history);
        private int calls;

        Run(String label) {
            this.label = label;
        }

        void go(List<EdgeLine.Step> steps) {
            for (EdgeLine.Step step : steps) {
                int got = 0;
                int modelGot = 0;
                for (EdgeLine.Call call : step.calls()) {
                    got = Seen.call(x, call);
                    modelGot = model.call(call.name(), call.args().stream().mapToInt(v -> v).toArray());
                    calls++;
                }
                String name = label + " " + step.line() + ": " + step.last();
                check.due(name, got, step.want());
                check.due(name + " of Model", modelGot, step.want());
                if (step.isLookedBehind()) {
                    lookBehind(name, step, got);
                } else {
                    history.addAll(step.calls());
                }
            }
            check.due(label + " keeps to 512 calls", calls <= Seen.MOST_CALLS ? 1 : 0, 1);
            check.due(label + " has calls", calls > 0 ? 1 : 0, 1);
        }

        private void lookBehind(String name, EdgeLine.Step step, int got) {
            List<EdgeLine.Call> longer = new ArrayList<>(history);
            longer.addAll(step.calls());
            Seen then = new Seen(longer);
            List<String> unlike = then.partsUnlike(seen);
            if (!unlike.isEmpty()) {
                history.addAll(step.calls());
                seen = then;
            }
            unlike.removeAll(mayChange(step, got));
            check.due(name + " changed " + unlike, unlike.size(), 0);
            if (mayChange(step, got).contains("status")) {
                check.due(name + " status", then.status(), isFinding(got) ? Check.NULL + 1 - got : 0);
            }
        }

        private List<String> mayChange(EdgeLine.Step step, int got) {
            String name = step.last().name();
            if (name.equals("road")) {
                return got >= 0 ? List.of("tape", "road", "acts") : List.of("tape", "fault");
            }
            if (isFinding(got)) {
                return List.of("status");
            }
            if (got == Check.BAD || got == Check.STATE || got == Check.FULL) {
                return List.of();
            }
            if (ROW_CALLS.contains(name)) {
                return List.of("rows", "status");
            }
            if (ACT_CALLS.contains(name)) {
                return List.of("road", "acts");
            }
            switch (name) {
                case "feed":
                    return List.of("tape");
                case "image":
                    return List.of("image " + step.last().args().get(0));
                case "ask":
                    return List.of("trace");
                case "fits":
                case "as":
                    return List.of("status");
                default:
                    return List.of();
            }
        }

        private boolean isFinding(int got) {
            return got <= Check.NULL && got >= Check.STORE;
        }
    }
}
