/** What the project's tests share: the count of wrong answers, and roads made of texts. */
final class Check {
    static final int NONE = -1000000, BAD = -1000001, STATE = -1000002, FULL = -1000003;
    static final int NULL = -1000011, PLACE = -1000012, KIND = -1000013, SIZE = -1000014, STORE = -1000015;
    static final int[] FAR = {Integer.MIN_VALUE, Integer.MIN_VALUE + 1, -1, Integer.MAX_VALUE - 1, Integer.MAX_VALUE};

    /** Wrong answers beyond these are counted, but not told. */
    private static final int MOST_TOLD = 200;

    private int checked;
    private int wrong;

    void due(String call, int got, int want) {
        checked++;
        if (got != want) {
            wrong++;
            if (wrong > MOST_TOLD) {
                return;
            }
            System.out.println(call + " answered " + got + ", due is " + want);
        }
    }

    /** As above; the words for a wrong answer are made only where it is one. */
    void due(Object call, String where, int got, int want) {
        if (got == want) {
            checked++;
        } else {
            due(call + where, got, want);
        }
    }

    void due(String call, int[] got, int... want) {
        for (int i = 0; i < want.length; i++) {
            due(call + " [" + i + "]", i < got.length ? got[i] : NONE, want[i]);
        }
        due(call + " length", got.length, want.length);
    }

    /** Ends the test: exit code 1 if an answer was wrong, or none was looked at. */
    void end(String name) {
        System.out.println(name + ": " + checked + " answers, " + wrong + " wrong");
        if (wrong != 0 || checked == 0) {
            System.exit(1);
        }
    }

    static int read(PulpitRoads x, String text) {
        for (int i = 0; i < text.length(); i++) {
            x.feed(text.charAt(i));
        }
        return x.road();
    }

    static PulpitRoads on(String text) {
        PulpitRoads x = new PulpitRoads();
        if (read(x, text) < 0) {
            throw new IllegalStateException("no road: " + text);
        }
        return x;
    }

    static void fill(PulpitRoads x, int row, int lane, int... items) {
        x.row(row, lane, items.length);
        for (int i = 0; i < items.length; i++) {
            x.set(row, i, items[i]);
        }
    }
}
