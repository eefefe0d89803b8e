/**
 * Texts with a byte more, another one, or one less, each of the 256 at each place, and texts that
 * end there; what is read of each, or its fault, is compared with Model.
 */
public final class BytesTest {
    private static final String[] TEXTS = {
        "p4,0;r0;r1;r2;",
        "p8,5;r0;r1;r2;r0;b0,0;k2,3;y3,4;d1,7;e0,2;",
        "p16,15;r00;r01;r02;r00;r01;r02;r00;r01;r02;b08,15;k07,14;y06,13;d05,12;e04,11;",
    };
    private static final String[] MORE = {"r0;", "b0,0;", "00", "99", "r0;r0;r0;r0;r0;r0;", "b0,0;b0,0;b0,0;b0,0;b0,0;"};
    private static final Check CHECK = new Check();

    public static void main(String[] args) {
        for (String text : TEXTS) {
            for (int i = 0; i <= text.length(); i++) {
                String begin = text.substring(0, i);
                String end = text.substring(i);
                String behind = end.isEmpty() ? "" : end.substring(1);
                due(begin);
                due(begin + behind);
                for (char letter = 0; letter < 256; letter++) {
                    due(begin + letter);
                    due(begin + letter + end);
                    due(begin + letter + behind);
                }
                for (String more : MORE) {
                    due(begin + more);
                    due(begin + more + end);
                }
            }
        }
        numbers();
        CHECK.end("BytesTest");
    }

    /** All numbers of up to three figures in each place for one. */
    private static void numbers() {
        for (int n = 0; n < 1000; n++) {
            for (String figures : new String[] {"" + n, "0" + n, "00" + n}) {
                due("p" + figures + ",3;r0;r0;r0;");
                due("p4," + figures + ";r0;r0;r0;");
                due("p16," + figures + ";r0;r0;r0;");
                due("p4,3;r0;r0;r" + figures + ";");
                due("p4,3;r0;r0;r0;b" + figures + ",3;");
                due("p4,3;r0;r0;r0;r0;r0;r0;r0;r0;r0;e" + figures + ",3;");
                due("p4,3;r0;r0;r0;b2," + figures + ";");
                due("p16,3;r0;r0;r0;e2," + figures + ";");
            }
        }
    }

    private static void due(String text) {
        PulpitRoads x = new PulpitRoads();
        Model model = new Model();
        for (char letter : text.toCharArray()) {
            x.feed(letter);
            model.call("feed", new int[] {letter});
        }
        CHECK.due(text, x.road(), model.call("road", new int[0]));
        CHECK.due(text + " fault", x.fault(), model.call("fault", new int[0]));
        for (int what = 0; what < 10; what++) {
            CHECK.due(text + " count " + what, x.count(what), model.call("count", new int[] {what}));
        }
        for (int p = 0; p < x.count(2); p++) {
            CHECK.due(text + " kind", x.kind(p), model.call("kind", new int[] {p}));
            for (int what = 0; what < 3; what++) {
                CHECK.due(text + " pulpit " + what, x.pulpit(p, what), model.call("pulpit", new int[] {p, what}));
            }
        }
        for (int s = 0; s < x.count(1); s++) {
            CHECK.due(text + " grade", x.stretch(s, 0), model.call("stretch", new int[] {s, 0}));
        }
    }
}
