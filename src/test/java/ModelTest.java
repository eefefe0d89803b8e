import java.lang.reflect.Method;
import java.util.Arrays;
import java.util.List;
import java.util.Random;

/** Runs of drawn calls (by fixed seeds), each answer compared with that of Model. */
public final class ModelTest {
    private static final int RUNS = 300, CALLS = 512;
    private static final int[] ODD = {-1, -2, 41, 61, 90, 256, 10000, Integer.MAX_VALUE, Integer.MIN_VALUE};
    private static final Check CHECK = new Check();

    public static void main(String[] args) throws Exception {
        List<Method> methods = Seen.face();
        for (int run = 0; run < RUNS; run++) {
            new Run(run, methods).go();
        }
        CHECK.end("ModelTest");
    }

    private static final class Run {
        private final int number;
        private final Random random;
        private final List<Method> methods;
        private final PulpitRoads x = new PulpitRoads();
        private final Model model = new Model();
        private int calls;
        private boolean failed;

        Run(int number, List<Method> methods) {
            this.number = number;
            this.random = new Random(number);
            this.methods = methods;
        }

        void go() throws Exception {
            boolean early = random.nextInt(10) == 0;
            while (calls < CALLS && !failed) {
                if (model.world == null && !early && random.nextInt(4) != 0 || random.nextInt(150) == 0) {
                    feedRoad();
                }
                Method m = methods.get(random.nextInt(methods.size()));
                if (m.getName().equals("road") && random.nextInt(4) != 0) {
                    continue;
                }
                if (m.getName().equals("row") && random.nextInt(20) == 0) {
                    tellTruly();
                }
                call(m, argsFor(m));
            }
        }

        private void call(Method m, int[] a) throws Exception {
            if (calls >= CALLS || failed) {
                return;
            }
            calls++;
            Object[] boxed = Arrays.stream(a).boxed().toArray();
            int got = (Integer) m.invoke(x, boxed);
            int want = model.call(m.getName(), a);
            CHECK.due("run " + number + ", call " + calls + ": " + m.getName() + Arrays.toString(a), got, want);
            failed = got != want;
        }

        private void call(String name, int... a) throws Exception {
            for (Method m : methods) {
                if (m.getName().equals(name)) {
                    call(m, a);
                }
            }
        }

        private void feedRoad() throws Exception {
            StringBuilder text = new StringBuilder(roadText());
            int kind = random.nextInt(3);
            for (int i = 0; kind == 0 && i <= random.nextInt(2); i++) {
                spoil(text);
            }
            if (model.tape.length() > 0) {
                call("road");
            }
            for (int i = 0; i < text.length(); i++) {
                call("feed", text.charAt(i));
            }
            call("road");
        }

        private String roadText() {
            StringBuilder b = new StringBuilder();
            int words = 4 + random.nextInt(random.nextBoolean() ? 5 : 13);
            b.append('p').append(words).append(',').append(random.nextInt(words)).append(';');
            int stretches = 3 + random.nextInt(7);
            for (int s = 0; s < stretches; s++) {
                b.append('r').append(random.nextInt(3)).append(';');
            }
            int pulpits = random.nextInt(6);
            for (int p = 0; p < pulpits; p++) {
                b.append("bkyde".charAt(random.nextInt(5))).append(random.nextInt(stretches)).append(',');
                b.append(random.nextInt(words)).append(';');
            }
            return b.toString();
        }

        private void spoil(StringBuilder text) {
            String signs = "pr bkyde,;0123456789zA";
            int at = random.nextInt(text.length());
            char sign = signs.charAt(random.nextInt(signs.length()));
            int way = random.nextInt(5);
            if (way == 0 && text.length() > 1) {
                text.deleteCharAt(at);
            } else if (way == 1) {
                text.insert(at, sign);
            } else if (way == 2) {
                text.setCharAt(at, sign);
            } else if (way == 3) {
                text.setLength(Math.max(1, at));
            } else {
                int semicolon = text.indexOf(";", at);
                text.insert(semicolon + 1, random.nextBoolean() ? "r1;r1;r1;r1;r1;r1;" : "b0,0;e0,1;y0,0;d0,1;");
            }
        }

        /** A row that tells what a pulpit really will do, so that something fits it. */
        private void tellTruly() throws Exception {
            if (model.world == null || model.world.pulpits.isEmpty()) {
                return;
            }
            int pulpit = random.nextInt(model.world.pulpits.size());
            int n = 1 + random.nextInt(8);
            int row = random.nextInt(8);
            call("row", row, random.nextInt(3), n);
            for (int h = 0; h < n; h++) {
                call("set", row, h, model.ahead(pulpit, h + 1, 0));
            }
            for (int what = 0; what < 4; what++) {
                call("fits", pulpit, row, 0, n, what);
            }
        }

        private int[] argsFor(Method m) {
            int[] a = new int[m.getParameterCount()];
            for (int i = 0; i < a.length; i++) {
                a[i] = random.nextInt(40) == 0 ? ODD[random.nextInt(ODD.length)] : usual(m.getName(), i);
            }
            return a;
        }

        private int usual(String name, int i) {
            boolean last = random.nextInt(30) == 0;
            int pulpit = random.nextInt(model.world == null ? 2 : model.world.pulpits.size() + (last ? 1 : 0) + 1) - 1;
            int p = Math.max(0, pulpit);
            int s = random.nextInt((model.world == null ? 2 : model.world.grades.length) + (last ? 1 : 0));
            int w = random.nextInt((model.world == null ? 2 : model.world.words) + (last ? 1 : 0));
            int row = random.nextInt(last ? 9 : 4);
            int what = random.nextInt(last ? 3 : 2);
            int[] usual;
            switch (name) {
                case "row": usual = new int[] {row, random.nextInt(last ? 4 : 3), random.nextInt(14) - (last ? 3 : 0)}; break;
                case "set": usual = new int[] {row, random.nextInt(8), random.nextInt(5) == 0 ? random.nextInt() : s}; break;
                case "copy":
                    usual = new int[] {row, random.nextInt(6), row, random.nextInt(6), random.nextInt(6)};
                    break;
                case "feed": usual = new int[] {random.nextInt(257)}; break;
                case "hours": usual = new int[] {random.nextInt(10) == 0 ? random.nextInt(26) : 1 + random.nextInt(3)}; break;
                case "put": usual = new int[] {p, s}; break;
                case "skip": usual = new int[] {p, w}; break;
                case "pulpit": usual = new int[] {p, random.nextInt(last ? 5 : 4)}; break;
                case "stretch": usual = new int[] {s, random.nextInt(last ? 4 : 3)}; break;
                case "ahead": usual = new int[] {p, random.nextInt(last ? 63 : 20), what}; break;
                case "heard": usual = new int[] {s, random.nextInt(last ? 63 : 20)}; break;
                case "left": usual = new int[] {random.nextInt(last ? 63 : 12)}; break;
                case "meet": usual = new int[] {p, p}; break;
                case "best": usual = new int[] {p, s, random.nextInt(last ? 33 : 12), what}; break;
                case "walk": usual = new int[] {s, random.nextInt(last ? 10 : 9), what}; break;
                case "fits":
                    usual = new int[] {p, row, random.nextInt(4), 1 + random.nextInt(last ? 14 : 3), random.nextInt(last ? 5 : 4)};
                    break;
                case "axles": usual = new int[] {s, w, random.nextInt(last ? 12 : 11), what}; break;
                case "drawn": usual = new int[] {random.nextInt(last ? 63 : 30), 1 + random.nextInt(last ? 1100000 : 999), what}; break;
                case "as": usual = new int[] {p, random.nextInt(last ? 7 : 6)}; break;
                case "ask": usual = new int[] {p, what}; break;
                case "trace": usual = new int[] {random.nextInt(8)}; break;
                case "count": usual = new int[] {random.nextInt(last ? 12 : 10)}; break;
                case "kind": usual = new int[] {p}; break;
                case "drop": usual = new int[] {row}; break;
                case "image": case "restore": case "first": case "piece": usual = new int[] {what}; break;
                default: usual = new int[] {s}; break;
            }
            return usual[i];
        }
    }
}
