/** Promises 31 to 34: kinds, what a pulpit is taken as, asks and their trace. */
public final class AskedTest {
    private static final String FIVE = "p8,5;r0;r1;r2;r0;b1,6;k2,3;y3,4;d1,7;e0,2;";
    private static final Check CHECK = new Check();

    public static void main(String[] args) {
        kinds();
        takenAs();
        asks();
        refusedAsks();
        CHECK.end("AskedTest");
    }

    private static void kinds() {
        PulpitRoads x = Check.on(FIVE);
        for (int p = 0; p < 5; p++) {
            CHECK.due("kind(" + p + ")", x.kind(p), p + 1);
        }
        CHECK.due("kind(5)", x.kind(5), Check.BAD);
        CHECK.due("kind(-1)", x.kind(-1), Check.BAD);
        CHECK.due("no road", new PulpitRoads().kind(0), Check.BAD);
    }

    private static void takenAs() {
        PulpitRoads x = Check.on(FIVE);
        int[] is = {3, 7, 11, 17, 49};
        for (int p = 0; p < 5; p++) {
            for (int kind = 0; kind < 6; kind++) {
                boolean such = (is[p] >> kind & 1) != 0;
                CHECK.due("as(" + p + ", " + kind + ")", x.as(p, kind), such ? p : Check.KIND);
                CHECK.due("status of it", x.status(), such ? 0 : 3);
            }
        }
        CHECK.due("kind 6", x.as(0, 6), Check.BAD);
        CHECK.due("kind -1", x.as(0, -1), Check.BAD);
        CHECK.due("pulpit 5", x.as(5, 0), Check.BAD);
        CHECK.due("pulpit -1", x.as(-1, 0), Check.BAD);
    }

    private static void ask(PulpitRoads x, int pulpit, int what, int want, int... bodies) {
        String call = "ask(" + pulpit + ", " + what + ")";
        CHECK.due(call, x.ask(pulpit, what), want);
        for (int i = 0; i < bodies.length; i++) {
            CHECK.due(call + " trace " + i, x.trace(i), bodies[i]);
        }
        CHECK.due(call + " trace ends", x.trace(bodies.length), Check.NONE);
    }

    private static void asks() {
        PulpitRoads x = Check.on(FIVE);
        ask(x, 0, 0, 7, 11, 10, 21, 20);
        ask(x, 0, 1, 1, 21, 20);
        ask(x, 1, 0, -9, 12, 11, 10, 24, 21, 20);
        ask(x, 1, 1, 6, 24, 21, 20);
        ask(x, 2, 0, -991, 11, 10, 22, 21, 20);
        ask(x, 2, 1, -995, 22, 21, 20);
        ask(x, 3, 0, -93, 13, 10);
        ask(x, 3, 1, 96, 23, 20, 13, 10);
        ask(x, 4, 0, -196, 14, 13, 10);
        ask(x, 4, 1, 200, 23, 20, 14, 13, 10);
    }

    private static void refusedAsks() {
        PulpitRoads x = Check.on(FIVE);
        x.ask(0, 1);
        CHECK.due("ask 2", x.ask(0, 2), Check.BAD);
        CHECK.due("ask -1", x.ask(0, -1), Check.BAD);
        CHECK.due("pulpit 5", x.ask(5, 0), Check.BAD);
        CHECK.due("pulpit -1", x.ask(-1, 0), Check.BAD);
        CHECK.due("the trace stays", x.trace(0), 21);
        CHECK.due("its end", x.trace(2), Check.NONE);
        for (int far : Check.FAR) {
            CHECK.due("trace " + far, x.trace(far), Check.NONE);
        }
    }
}
