/** Promises 6 to 15, 29, 30 and 35: the tape, roads, acts, images and counts. */
public final class RoadsTest {
    /** A round of three hours: 3 words, then 1, then 4. */
    private static final String ROUND = "p4,1;r0;r1;r2;b0,0;";
    private static final String FIVE = "p8,5;r0;r1;r2;r0;b0,0;k2,3;y3,4;d1,7;e0,2;";
    private static final Check CHECK = new Check();

    public static void main(String[] args) {
        tapeFills();
        roadsAreRead();
        faultsAreTold();
        faultsChangeNothing();
        hoursOfEachKind();
        councilsWait();
        hoursAreRefused();
        hoursEnd();
        pulpitsArePut();
        wordsAreSkipped();
        gatesForget();
        actsAreUndone();
        pulpitsAndStretchesAreTold();
        imagesAreKept();
        countsAreTold();
        CHECK.end("RoadsTest");
    }

    private static void tapeFills() {
        PulpitRoads x = new PulpitRoads();
        CHECK.due("feed(-1)", x.feed(-1), Check.BAD);
        CHECK.due("feed(256)", x.feed(256), Check.BAD);
        CHECK.due("feed(0)", x.feed(0), 1);
        CHECK.due("feed(255)", x.feed(255), 2);
        for (int i = 3; i <= 90; i++) {
            CHECK.due("feed " + i, x.feed('p'), i);
        }
        CHECK.due("feed beyond 90", x.feed('p'), Check.FULL);
        CHECK.due("BAD ahead of FULL", x.feed(256), Check.BAD);
        CHECK.due("bytes", x.count(7), 90);
        CHECK.due("byte 0 is no token", x.road(), -1000100);
        CHECK.due("the tape is empty", x.feed('p'), 1);
    }

    private static void roadsAreRead() {
        PulpitRoads x = new PulpitRoads();
        CHECK.due("least", Check.read(x, "p4,3;r0;r1;r2;"), 0);
        CHECK.due("stretches", x.count(1), 3);
        CHECK.due("most", Check.read(x, "p16,15;r0;r1;r2;r00;r01;r02;r2;r1;r0;b8,15;k08,00;y0,1;d1,2;e7,9;"), 5);
        CHECK.due("stretches", x.count(1), 9);
        CHECK.due("words", x.count(4), 16);
        CHECK.due("hard", x.count(5), 15);
        CHECK.due("two figures", x.stretch(5, 0), 2);
        CHECK.due("stretch of 1", x.pulpit(1, 0), 8);
        CHECK.due("word of 0", x.pulpit(0, 1), 15);
        for (int p = 0; p < 5; p++) {
            CHECK.due("sort " + p, x.kind(p), p + 1);
        }
        CHECK.due("no fault yet", x.fault(), 0);
    }

    private static void fault(String text, int place, int number) {
        PulpitRoads x = new PulpitRoads();
        CHECK.due("road of " + text, Check.read(x, text), -1000100 - place);
        CHECK.due("fault of " + text, x.fault(), number);
        CHECK.due("tape behind " + text, x.count(7), 0);
        CHECK.due("no road by " + text, x.hours(1), Check.STATE);
    }

    private static void faultsAreTold() {
        fault("", 0, 1);
        fault("x", 0, 1);
        fault("P4,0;", 0, 1);
        fault(" p4,0;", 0, 1);
        fault("4", 0, 1);
        fault("p", 1, 1);
        fault("pp", 1, 1);
        fault("p3", 1, 2);
        fault("p17,0;", 1, 2);
        fault("p016,0;", 1, 1);
        fault("p999", 1, 1);
        fault("p1234", 1, 1);
        fault("p16", 3, 1);
        fault("p4;", 2, 1);
        fault("p4,,", 3, 1);
        fault("p4,4;", 3, 2);
        fault("p04,04;", 4, 2);
        fault("p4,000;", 3, 1);
        fault("p4,3,", 4, 1);
        fault("p4,3;", 5, 1);
        fault("p4,3;b0,0;", 5, 1);
        fault("p4,3;r0;r0;", 11, 1);
        fault("p4,3;r0;r0;b0,0;", 11, 1);
        fault("p4,3;r3;", 6, 2);
        fault("p4,3;r0,", 7, 1);
        fault("p4,3;r;", 6, 1);
        String three = "p4,3;r0;r0;r0;";
        fault(three + "x", 14, 1);
        fault(three + "p", 14, 1);
        fault(three + ";", 14, 1);
        fault(three + "0", 14, 1);
        fault(three + "b3,0;", 15, 2);
        fault(three + "b2;", 16, 1);
        fault(three + "b2,4;", 17, 2);
        fault(three + "b2,3", 18, 1);
        fault(three + "b2,3;r0;", 19, 1);
        fault(three + "b", 15, 1);
        fault(three + "b100,0;", 15, 1);
        String nine = three + "r0;r0;r0;r0;r0;r0;";
        fault(nine + "r", 32, 3);
        fault(nine + "r9", 32, 3);
        fault(nine + "b0,0;r0;", 37, 1);
        String five = three + "b0,0;k0,0;y0,0;d0,0;e0,0;";
        fault(five + "e", 39, 3);
        fault(five + "b9,9;", 39, 3);
        fault(five + "r", 39, 1);
        fault(five + "z", 39, 1);
        fault(five + ";", 39, 1);
    }

    private static void faultsChangeNothing() {
        PulpitRoads x = Check.on(FIVE);
        x.hours(3);
        CHECK.due("a fault", Check.read(x, "p5,1;r1;r1;r1;b0,4;b0,9;"), -1000122);
        CHECK.due("its number", x.fault(), 2);
        CHECK.due("words stay", x.count(4), 8);
        CHECK.due("stretches stay", x.count(1), 4);
        CHECK.due("hour stays", x.count(3), 3);
        CHECK.due("acts stay", x.count(6), 3);
        CHECK.due("undo goes on", x.undo(), 2);
        CHECK.due("a road", Check.read(x, ROUND), 1);
        CHECK.due("the latest fault stays", x.fault(), 2);
        CHECK.due("hour 0", x.count(3), 0);
        CHECK.due("no acts", x.count(6), 0);
        CHECK.due("nothing heard", x.count(9), 0);
        CHECK.due("nothing to undo", x.undo(), Check.STATE);
        x.ahead(0, 9, 0);
        CHECK.due("a road behind foretelling", Check.read(x, "p4,0;r0;r1;r2;"), 0);
        CHECK.due("hour 0 of it", x.count(3), 0);
        CHECK.due("nothing heard on it", x.count(9), 0);
        CHECK.due("no pulpits on it", x.count(2), 0);
    }

    /** STRETCH and WORD behind each of four hours, of a pulpit alone. */
    private static void goes(String text, int... want) {
        PulpitRoads x = Check.on(text);
        for (int h = 0; h < want.length / 2; h++) {
            x.hours(1);
            CHECK.due(text + " stretch behind " + (h + 1), x.pulpit(0, 0), want[2 * h]);
            CHECK.due(text + " word behind " + (h + 1), x.pulpit(0, 1), want[2 * h + 1]);
        }
    }

    private static void hoursOfEachKind() {
        goes("p5,1;r0;r1;r2;b0,0;", 1, 3, 2, 4, 0, 3, 1, 1);
        goes("p5,1;r0;r1;r2;k0,0;", 2, 3, 1, 2, 0, 3, 2, 1);
        goes("p5,1;r0;r1;r2;y0,0;", 0, 3, 1, 1, 1, 2, 2, 3);
        goes("p5,1;r0;r1;r2;y0,2;", 1, 0, 2, 1, 2, 0, 2, 4);
        goes("p5,1;r0;r1;r2;d0,3;", 1, 3, 2, 3, 0, 3, 1, 3);
        goes("p5,1;r0;r1;r2;e0,0;", 1, 2, 2, 1, 0, 2, 1, 4);
        PulpitRoads x = Check.on(ROUND);
        CHECK.due("hour 1", x.hours(1), 0);
        CHECK.due("gate 0", x.stretch(0, 1), 7);
        CHECK.due("hours to 3", x.hours(2), 4);
        CHECK.due("gate 1", x.stretch(1, 1), 8);
        CHECK.due("gate 2", x.stretch(2, 1), 15);
        CHECK.due("hour", x.count(3), 3);
        CHECK.due("an act each", x.count(6), 3);
        PulpitRoads echo = Check.on("p5,1;r0;r0;r0;e0,1;");
        echo.hours(1);
        CHECK.due("an echo says 1, 0, 4", echo.stretch(0, 1), 19);
        PulpitRoads door = Check.on("p5,1;r0;r0;r0;d0,1;");
        door.hours(24);
        CHECK.due("a door says nothing", door.count(9), 0);
    }

    private static void councilsWait() {
        PulpitRoads x = Check.on("p8,0;r1;r1;r1;b0,1;b0,2;b0,3;");
        CHECK.due("0 passes", x.pulpit(0, 2), 0);
        CHECK.due("1 waits", x.pulpit(1, 2), 1);
        CHECK.due("2 waits", x.pulpit(2, 2), 1);
        x.hours(1);
        CHECK.due("heard by 0 alone", x.stretch(0, 1), 2);
        CHECK.due("1 is there", x.pulpit(1, 0), 0);
        CHECK.due("its word stays", x.pulpit(1, 1), 2);
        x.hours(1);
        CHECK.due("heard by 1 too", x.stretch(0, 1), 6);
        CHECK.due("1 went", x.pulpit(1, 0), 1);
        PulpitRoads later = Check.on("p8,0;r1;r1;r1;b1,1;b0,2;");
        later.hours(1);
        CHECK.due("councils are as the hour began", later.pulpit(1, 0), 1);
        PulpitRoads ahead = Check.on("p8,0;r1;r1;r1;b0,1;y1,0;");
        ahead.hours(1);
        CHECK.due("one that comes is no council yet", ahead.stretch(1, 1), 1);
        CHECK.due("it is one now", ahead.pulpit(1, 2), 1);
    }

    private static void hoursAreRefused() {
        PulpitRoads x = new PulpitRoads();
        CHECK.due("STATE ahead of BAD", x.hours(0), Check.STATE);
        Check.read(x, ROUND);
        CHECK.due("hours(0)", x.hours(0), Check.BAD);
        CHECK.due("hours(25)", x.hours(25), Check.BAD);
        for (int far : Check.FAR) {
            CHECK.due("hours " + far, x.hours(far), Check.BAD);
        }
        CHECK.due("nothing went on", x.count(3), 0);
        CHECK.due("hours(24)", x.hours(24), 4);
    }

    private static void hoursEnd() {
        PulpitRoads x = Check.on("p4,0;r0;r0;r0;");
        for (int i = 0; i < 416; i++) {
            x.hours(24);
        }
        CHECK.due("hour", x.count(3), 9984);
        CHECK.due("beyond 9999", x.hours(16), Check.FULL);
        CHECK.due("BAD ahead of FULL", x.hours(25), Check.BAD);
        CHECK.due("hour stays", x.count(3), 9984);
        CHECK.due("to 9999", x.hours(15), 0);
        CHECK.due("one more", x.hours(1), Check.FULL);
        x.undo();
        CHECK.due("once more", x.hours(1), 0);
    }

    private static void pulpitsArePut() {
        PulpitRoads x = Check.on(FIVE);
        CHECK.due("put(0, 2)", x.put(0, 2), 0);
        CHECK.due("it is there", x.put(0, 2), Check.STATE);
        CHECK.due("an act", x.count(6), 1);
        CHECK.due("put(4, 3)", x.put(4, 3), 0);
        CHECK.due("two there", x.stretch(3, 2), 20);
        CHECK.due("no such pulpit", x.put(5, 0), Check.BAD);
        CHECK.due("no such stretch", x.put(0, 4), Check.BAD);
        CHECK.due("-1", x.put(-1, 0), Check.BAD);
        CHECK.due("to -1", x.put(0, -1), Check.BAD);
        CHECK.due("no act of these", x.count(6), 2);
    }

    private static void wordsAreSkipped() {
        PulpitRoads x = Check.on(FIVE);
        CHECK.due("skip(1, 7)", x.skip(1, 7), 3);
        CHECK.due("skip(1, 0)", x.skip(1, 0), 7);
        CHECK.due("its word", x.pulpit(1, 1), 0);
        CHECK.due("acts", x.count(6), 2);
        CHECK.due("no such word", x.skip(1, 8), Check.BAD);
        CHECK.due("-1", x.skip(1, -1), Check.BAD);
        CHECK.due("no such pulpit", x.skip(5, 0), Check.BAD);
        CHECK.due("pulpit -1", x.skip(-1, 0), Check.BAD);
        CHECK.due("no act of these", x.count(6), 2);
        CHECK.due("the same word is no refusal", x.skip(1, 0), 0);
    }

    private static void gatesForget() {
        PulpitRoads x = Check.on(ROUND);
        CHECK.due("none yet", x.forget(0), Check.STATE);
        x.hours(1);
        CHECK.due("forget(0)", x.forget(0), 3);
        CHECK.due("all", x.stretch(0, 1), 0);
        CHECK.due("again", x.forget(0), Check.STATE);
        CHECK.due("acts", x.count(6), 2);
        CHECK.due("no such gate", x.forget(3), Check.BAD);
        CHECK.due("-1", x.forget(-1), Check.BAD);
    }

    private static void actsAreUndone() {
        PulpitRoads x = Check.on(ROUND);
        x.hours(2);
        x.put(0, 0);
        x.skip(0, 2);
        x.forget(0);
        CHECK.due("undo forget", x.undo(), 4);
        CHECK.due("heard again", x.stretch(0, 1), 7);
        CHECK.due("undo skip", x.undo(), 3);
        CHECK.due("word again", x.pulpit(0, 1), 0);
        CHECK.due("undo put", x.undo(), 2);
        CHECK.due("stretch again", x.pulpit(0, 0), 2);
        CHECK.due("undo an hour", x.undo(), 1);
        CHECK.due("hour", x.count(3), 1);
        CHECK.due("its stretch", x.pulpit(0, 0), 1);
        CHECK.due("its word", x.pulpit(0, 1), 3);
        CHECK.due("not heard", x.stretch(1, 1), 0);
        CHECK.due("undo the first", x.undo(), 0);
        CHECK.due("hour 0", x.count(3), 0);
        CHECK.due("none", x.undo(), Check.STATE);
        x.hours(24);
        x.put(0, 2);
        CHECK.due("24 at most", x.count(6), 24);
        for (int left = 23; left >= 0; left--) {
            CHECK.due("undo to " + left, x.undo(), left);
        }
        CHECK.due("the oldest is forgotten", x.count(3), 1);
        CHECK.due("none more", x.undo(), Check.STATE);
    }

    private static void pulpitsAndStretchesAreTold() {
        PulpitRoads x = Check.on(FIVE);
        CHECK.due("a box flat", x.pulpit(0, 3), 7);
        CHECK.due("a back one up", x.pulpit(1, 3), 120);
        CHECK.due("a pony flat", x.pulpit(2, 3), 112);
        CHECK.due("a door", x.pulpit(3, 3), 0);
        CHECK.due("an echo in council", x.pulpit(4, 3), 7);
        x.skip(4, 0);
        CHECK.due("an echo at 0", x.pulpit(4, 3), 193);
        x.skip(0, 7);
        CHECK.due("a box at 7", x.pulpit(0, 3), 131);
        x.put(0, 1);
        CHECK.due("a box down", x.pulpit(0, 3), 128);
        CHECK.due("no council now", x.pulpit(4, 2), 0);
        CHECK.due("a council now", x.pulpit(3, 2), 1);
        CHECK.due("grade", x.stretch(2, 0), 2);
        CHECK.due("there", x.stretch(1, 2), 9);
        CHECK.due("nobody", x.stretch(0, 2), 16);
        for (int far : Check.FAR) {
            CHECK.due("pulpit " + far, x.pulpit(far, 0), Check.BAD);
            CHECK.due("what " + far, x.pulpit(0, far), Check.BAD);
            CHECK.due("stretch " + far, x.stretch(far, 0), Check.BAD);
            CHECK.due("stretch what " + far, x.stretch(0, far), Check.BAD);
        }
        CHECK.due("pulpit 5", x.pulpit(5, 0), Check.BAD);
        CHECK.due("pulpit what 4", x.pulpit(0, 4), Check.BAD);
        CHECK.due("stretch 4", x.stretch(4, 0), Check.BAD);
        CHECK.due("stretch what 3", x.stretch(0, 3), Check.BAD);
    }

    private static void imagesAreKept() {
        PulpitRoads x = new PulpitRoads();
        CHECK.due("BAD ahead of STATE", x.image(2), Check.BAD);
        CHECK.due("no road", x.image(0), Check.STATE);
        Check.read(x, ROUND);
        x.hours(2);
        CHECK.due("image(0)", x.image(0), 1);
        CHECK.due("acts stay", x.count(6), 2);
        x.hours(1);
        CHECK.due("none in 1", x.restore(1), Check.STATE);
        CHECK.due("no such", x.restore(2), Check.BAD);
        CHECK.due("-1", x.restore(-1), Check.BAD);
        CHECK.due("image -1", x.image(-1), Check.BAD);
        Check.read(x, FIVE);
        CHECK.due("image(1)", x.image(1), 1);
        x.hours(3);
        CHECK.due("restore(0)", x.restore(0), 1);
        CHECK.due("hour", x.count(3), 2);
        CHECK.due("words", x.count(4), 4);
        CHECK.due("hard", x.count(5), 1);
        CHECK.due("stretches", x.count(1), 3);
        CHECK.due("pulpits", x.count(2), 1);
        CHECK.due("heard", x.count(9), 4);
        CHECK.due("grade", x.stretch(2, 0), 2);
        CHECK.due("no acts", x.undo(), Check.STATE);
        x.hours(1);
        CHECK.due("it can be restored again", x.restore(0), 1);
        CHECK.due("as it was", x.count(3), 2);
        x.restore(1);
        CHECK.due("the other one", x.kind(4), 5);
    }

    private static void countsAreTold() {
        PulpitRoads x = Check.on(FIVE);
        x.row(1, 0, 0);
        x.row(5, 1, 9);
        x.hours(5);
        x.feed('p');
        int[] want = {2, 4, 5, 5, 8, 5, 5, 1};
        for (int what = 0; what < want.length; what++) {
            CHECK.due("count(" + what + ")", x.count(what), want[what]);
        }
        PulpitRoads y = Check.on(ROUND);
        y.hours(3);
        CHECK.due("gates that heard all", y.count(8), 4);
        CHECK.due("words heard", y.count(9), 8);
        CHECK.due("count(10)", y.count(10), Check.BAD);
        for (int far : Check.FAR) {
            CHECK.due("count " + far, y.count(far), Check.BAD);
        }
    }
}
