/** Promises 16 to 28: what is foretold, and that nothing changes by it. */
public final class ForetoldTest {
    /** A round of three hours: gate 0 hears 0, 1, 2, gate 1 hears 3, gate 2 hears all. */
    private static final String ROUND = "p4,1;r0;r1;r2;b0,0;";
    private static final String FIVE = "p8,5;r0;r1;r2;r0;b0,0;k2,3;y3,4;d1,7;e0,2;";
    private static final Check CHECK = new Check();

    public static void main(String[] args) {
        pulpitsAhead();
        gatesAhead();
        wholeAndFirst();
        left();
        meet();
        round();
        best();
        piece();
        walk();
        fits();
        fitsAreRefused();
        axles();
        drawn();
        farthest();
        noRoad();
        nothingChanges();
        CHECK.end("ForetoldTest");
    }

    private static void pulpitsAhead() {
        PulpitRoads x = Check.on(ROUND);
        CHECK.due("stretch now", x.ahead(0, 0, 0), 0);
        CHECK.due("stretch 2 on", x.ahead(0, 2, 0), 2);
        CHECK.due("word 1 on", x.ahead(0, 1, 1), 3);
        CHECK.due("stretch 60 on", x.ahead(0, 60, 0), 0);
        CHECK.due("61", x.ahead(0, 61, 0), Check.BAD);
        CHECK.due("no pulpit", x.ahead(1, 0, 0), Check.BAD);
        CHECK.due("what 2", x.ahead(0, 0, 2), Check.BAD);
        for (int far : Check.FAR) {
            CHECK.due("pulpit " + far, x.ahead(far, 0, 0), Check.BAD);
            CHECK.due("d " + far, x.ahead(0, far, 0), Check.BAD);
            CHECK.due("what " + far, x.ahead(0, 0, far), Check.BAD);
        }
    }

    private static void gatesAhead() {
        PulpitRoads x = Check.on(ROUND);
        CHECK.due("gate 0 now", x.heard(0, 0), 0);
        CHECK.due("gate 0, 1 on", x.heard(0, 1), 7);
        CHECK.due("gate 1, 60 on", x.heard(1, 60), 8);
        CHECK.due("gate 2, 2 on", x.heard(2, 2), 0);
        CHECK.due("gate 2, 3 on", x.heard(2, 3), 15);
        CHECK.due("61", x.heard(0, 61), Check.BAD);
        CHECK.due("no gate", x.heard(3, 0), Check.BAD);
        for (int far : Check.FAR) {
            CHECK.due("gate " + far, x.heard(far, 0), Check.BAD);
            CHECK.due("d " + far, x.heard(0, far), Check.BAD);
        }
    }

    private static void wholeAndFirst() {
        PulpitRoads x = Check.on(ROUND);
        CHECK.due("whole(0)", x.whole(0), Check.NONE);
        CHECK.due("whole(2)", x.whole(2), 3);
        CHECK.due("whole(3)", x.whole(3), Check.BAD);
        CHECK.due("whole(-1)", x.whole(-1), Check.BAD);
        CHECK.due("first gate", x.first(0), 2);
        CHECK.due("first behind", x.first(1), 3);
        CHECK.due("first(2)", x.first(2), Check.BAD);
        CHECK.due("first(-1)", x.first(-1), Check.BAD);
        x.hours(3);
        CHECK.due("whole by now", x.whole(2), 0);
        CHECK.due("first by now", x.first(1), 0);
        PulpitRoads two = Check.on("p4,1;r2;r0;r2;d0,0;b2,0;b0,0;b1,0;");
        CHECK.due("gate 2 alone: 0 is a door's", two.first(0), 2);
        PulpitRoads alike = Check.on("p4,1;r2;r0;r2;b2,0;b0,0;");
        CHECK.due("of several the least", alike.first(0), 0);
        PulpitRoads none = Check.on("p4,1;r2;r0;r2;");
        CHECK.due("no first gate", none.first(0), Check.NONE);
        CHECK.due("no first behind", none.first(1), Check.NONE);
        // a word each nine hours
        PulpitRoads late = Check.on("p16,0;r1;r1;r1;r1;r1;r1;r1;r1;r1;b0,0;");
        CHECK.due("beyond 60", late.whole(0), Check.NONE);
        CHECK.due("nor any", late.first(1), Check.NONE);
    }

    private static void left() {
        PulpitRoads x = Check.on(ROUND);
        CHECK.due("left(0)", x.left(0), 15);
        CHECK.due("left(1)", x.left(1), 8);
        CHECK.due("left(2)", x.left(2), 0);
        CHECK.due("left(60)", x.left(60), 0);
        CHECK.due("left(61)", x.left(61), Check.BAD);
        CHECK.due("left(-1)", x.left(-1), Check.BAD);
    }

    private static void meet() {
        PulpitRoads x = Check.on("p4,1;r0;r0;r0;r0;b0,0;k2,0;b0,0;b1,0;");
        CHECK.due("a box and a back one", x.meet(0, 1), 1);
        CHECK.due("the other way round", x.meet(1, 0), 1);
        CHECK.due("now", x.meet(0, 2), 0);
        // 3 waits behind 1, that goes back, in the fourth hour, and 0 comes to it
        CHECK.due("two boxes and a council", x.meet(0, 3), 4);
        CHECK.due("two boxes", Check.on("p4,1;r0;r0;r0;b0,0;b1,0;").meet(0, 1), Check.NONE);
        CHECK.due("alike", x.meet(1, 1), Check.BAD);
        CHECK.due("no pulpit", x.meet(0, 4), Check.BAD);
        CHECK.due("-1", x.meet(-1, 0), Check.BAD);
        CHECK.due("to -1", x.meet(0, -1), Check.BAD);
    }

    private static void round() {
        PulpitRoads x = Check.on(ROUND);
        CHECK.due("three hours", x.round(), 3);
        CHECK.due("no pulpits", Check.on("p4,1;r0;r1;r2;").round(), 1);
        CHECK.due("16 words of 8 in 5 hours", Check.on("p8,1;r0;r2;r2;r2;r1;b0,0;").round(), 5);
        CHECK.due("15 words of 16 in 4 hours", Check.on("p16,1;r2;r2;r2;r0;b0,0;").round(), 64);
        CHECK.due("a door", Check.on("p16,1;r2;r2;r2;r0;d0,0;").round(), 4);
        CHECK.due("27 words of 16 in 9 hours", Check.on("p16,1;r2;r2;r2;r2;r2;r1;r1;r1;r2;b0,0;").round(), 9 * 16);
        CHECK.due("a pony that ends up on a stretch for ever", Check.on("p4,1;r2;r0;r0;y1,0;").round(), Check.NONE);
        CHECK.due("a pony that stays where it is", Check.on("p4,1;r2;r0;r0;y0,0;").round(), 1);
    }

    private static void best() {
        PulpitRoads x = Check.on(ROUND);
        CHECK.due("gate 2 in 1", x.best(0, 2, 1, 0), 2);
        CHECK.due("how many", x.best(0, 2, 1, 1), 4);
        CHECK.due("gate 1 in 2: the first of two", x.best(0, 1, 2, 0), 0);
        CHECK.due("how many", x.best(0, 1, 2, 1), 1);
        CHECK.due("gate 1 in 1", x.best(0, 1, 1, 0), 1);
        CHECK.due("gate 0 in 30", x.best(0, 0, 30, 1), 3);
        x.hours(1);
        CHECK.due("what was heard counts", x.best(0, 0, 1, 1), 4);
        CHECK.due("best n 0", x.best(0, 0, 0, 0), Check.BAD);
        CHECK.due("best n 31", x.best(0, 0, 31, 0), Check.BAD);
        CHECK.due("best what 2", x.best(0, 0, 1, 2), Check.BAD);
        CHECK.due("no pulpit", x.best(1, 0, 1, 0), Check.BAD);
        CHECK.due("no gate", x.best(0, 3, 1, 0), Check.BAD);
        PulpitRoads council = Check.on("p8,1;r0;r0;r0;d0,0;b1,0;");
        CHECK.due("a door is no help", council.best(0, 1, 1, 0), 0);
        CHECK.due("left where it is", council.best(0, 1, 1, 1), 3);
    }

    private static void piece() {
        PulpitRoads x = Check.on(ROUND);
        x.hours(1);
        CHECK.due("not yet", x.piece(0), Check.NONE);
        CHECK.due("nor which", x.piece(1), Check.NONE);
        x.hours(1);
        CHECK.due("two", x.piece(0), 2);
        CHECK.due("0 and 1", x.piece(1), 3);
        x.hours(1);
        CHECK.due("one", x.piece(0), 1);
        CHECK.due("gate 2", x.piece(1), 4);
        CHECK.due("what 2", x.piece(2), Check.BAD);
        CHECK.due("what -1", x.piece(-1), Check.BAD);
        PulpitRoads several = Check.on("p4,1;r2;r2;r2;b1,0;b2,0;");
        several.hours(1);
        CHECK.due("of several the least", several.piece(1), 2);
    }

    private static void walk() {
        PulpitRoads x = Check.on(ROUND);
        CHECK.due("stays", x.walk(0, 1, 0), 3);
        CHECK.due("stays: 0", x.walk(0, 1, 1), 0);
        CHECK.due("goes with it", x.walk(0, 2, 0), 4);
        CHECK.due("goes ahead of hour 1", x.walk(0, 2, 1), 2);
        CHECK.due("goes ahead of hour 0", x.walk(2, 1, 0), 3);
        CHECK.due("as bits", x.walk(2, 1, 1), 1);
        // he hears all by going with it at once (bits 3, 7), too, but also by staying until it comes
        CHECK.due("of several ways the least", x.walk(2, 3, 1), 0);
        CHECK.due("one word", x.walk(1, 2, 0), 1);
        CHECK.due("by staying", x.walk(1, 2, 1), 0);
        x.hours(3);
        CHECK.due("what the gate heard is not his", x.walk(2, 1, 0), 3);
        CHECK.due("nothing to hear", x.walk(1, 1, 0), 0);
        CHECK.due("walk n 0", x.walk(0, 0, 0), Check.BAD);
        CHECK.due("walk n 9", x.walk(0, 9, 0), Check.BAD);
        CHECK.due("walk n 8", x.walk(0, 8, 0), 4);
        CHECK.due("walk what 2", x.walk(0, 1, 2), Check.BAD);
        CHECK.due("no stretch", x.walk(3, 1, 0), Check.BAD);
        CHECK.due("-1", x.walk(-1, 1, 0), Check.BAD);
    }

    private static void fits(PulpitRoads x, int n, int... want) {
        for (int what = 0; what < want.length; what++) {
            CHECK.due("fits of " + n + ", what " + what, x.fits(0, 0, 1, n, what), want[what]);
        }
    }

    private static void fits() {
        PulpitRoads box = Check.on(ROUND);
        Check.fill(box, 0, 2, 9, 1, 2, 0, 1);
        fits(box, 4, 50, 1, 15, 15);
        PulpitRoads pony = Check.on("p4,1;r1;r1;r1;y0,0;");
        Check.fill(pony, 0, 0, 9, 1, 1, 2, 0);
        fits(pony, 1, 58, 1, 14, 13);
        fits(pony, 3, 8, 1, 2, 1);
        Check.fill(pony, 0, 1, 9, -1);
        fits(pony, 1, 0, 0, 0, 0);
        // a pony of a lesser number that stays keeps the box in council
        PulpitRoads two = Check.on("p4,1;r0;r0;r0;y0,2;b0,0;");
        Check.fill(two, 0, 0, 0, 1);
        CHECK.due("the hard word of another's", two.fits(1, 0, 0, 2, 2), 2);
        CHECK.due("its own kind is not asked of the other", two.fits(1, 0, 0, 2, 0), 50);
        Check.fill(two, 0, 0, 1, 1, 1, 1, 1, 1, 1, 1, 1, 1, 1, 1);
        CHECK.due("12 hours", two.fits(0, 0, 0, 12, 0), 0);
    }

    private static void fitsAreRefused() {
        PulpitRoads x = Check.on(ROUND);
        x.row(0, 0, 3);
        CHECK.due("no pulpit", x.fits(1, 0, 0, 1, 0), Check.BAD);
        CHECK.due("no row", x.fits(0, 8, 0, 1, 0), Check.BAD);
        CHECK.due("n 0", x.fits(0, 0, 0, 0, 0), Check.BAD);
        CHECK.due("n 13", x.fits(0, 0, 0, 13, 0), Check.BAD);
        CHECK.due("what 4", x.fits(0, 0, 0, 1, 4), Check.BAD);
        CHECK.due("BAD ahead of NULL", x.fits(0, 1, 0, 13, 0), Check.BAD);
        CHECK.due("NULL ahead of PLACE", x.fits(0, 1, -1, 1, 0), Check.NULL);
        CHECK.due("beyond", x.fits(0, 0, 1, 3, 0), Check.PLACE);
        for (int far : Check.FAR) {
            CHECK.due("place " + far, x.fits(0, 0, far, 1, 0), Check.PLACE);
            CHECK.due("n " + far, x.fits(0, 0, 0, far, 0), Check.BAD);
        }
    }

    private static void axles(PulpitRoads x, int gate, int word, int c, int above, int below) {
        String call = "axles(" + gate + ", " + word + ", " + c + ")";
        CHECK.due(call + " above", x.axles(gate, word, c, 0), above);
        CHECK.due(call + " below", x.axles(gate, word, c, 1), below);
    }

    private static void axles() {
        PulpitRoads x = Check.on("p4,1;r0;r1;r2;b0,0;b0,3;");
        axles(x, 0, 1, 4, 3, 5);
        axles(x, 0, 1, 5, 1, 2);
        axles(x, 0, 1, 3, 7, 10);
        axles(x, 0, 1, 0, 1, 1);
        axles(x, 0, 1, 10, 0, 1);
        axles(x, 0, 3, 4, 0, 1);
        axles(x, 1, 1, 4, 0, 1);
        x.hours(1);
        axles(x, 0, 1, 10, 1, 1);
        axles(x, 0, 3, 2, 4, 5);
        CHECK.due("c 11", x.axles(0, 0, 11, 0), Check.BAD);
        CHECK.due("c -1", x.axles(0, 0, -1, 0), Check.BAD);
        CHECK.due("no word", x.axles(0, 4, 0, 0), Check.BAD);
        CHECK.due("no gate", x.axles(3, 0, 0, 0), Check.BAD);
        CHECK.due("what 2", x.axles(0, 0, 0, 2), Check.BAD);
    }

    private static void drawn() {
        PulpitRoads x = Check.on("p4,1;r0;r1;r2;r1;b1,0;");
        CHECK.due("none", x.drawn(0, 6, 0), 0);
        // 6 times 16807 is 100842: by 3 it leaves 0, by 4 stretches 2
        CHECK.due("put where it is up", x.drawn(1, 6, 0), 4);
        CHECK.due("one gate heard all", x.drawn(1, 6, 1), 1);
        CHECK.due("16807 by 3 leaves 1", x.drawn(1, 1, 0), 1);
        CHECK.due("no gate", x.drawn(1, 1, 1), 0);
        CHECK.due("61", x.drawn(61, 1, 0), Check.BAD);
        CHECK.due("n -1", x.drawn(-1, 1, 0), Check.BAD);
        CHECK.due("seed 0", x.drawn(1, 0, 0), Check.BAD);
        CHECK.due("seed 1000000", x.drawn(1, 1000000, 0), Check.BAD);
        CHECK.due("what 2", x.drawn(1, 1, 2), Check.BAD);
        PulpitRoads nobody = Check.on("p4,1;r0;r1;r2;");
        CHECK.due("no pulpits", nobody.drawn(60, 999999, 0), 0);
        PulpitRoads five = Check.on(FIVE);
        CHECK.due("20 hours by 7", five.drawn(20, 7, 0), 30);
        CHECK.due("gates", five.drawn(20, 7, 1), 3);
    }

    /** Roads that were searched for by going hour by hour, so that what is asked comes in the last hour, or one later. */
    private static void farthest() {
        CHECK.due("whole in 60", Check.on("p16,0;r0;r0;r2;r0;r1;r1;r2;r0;e5,3;d0,1;").whole(0), 60);
        PulpitRoads late = Check.on("p14,7;r0;r1;r0;r2;r1;r2;r2;r2;r2;k0,7;d2,5;d5,7;y3,6;d0,2;");
        CHECK.due("whole in 61", late.whole(0), Check.NONE);
        late.hours(1);
        CHECK.due("an hour on", late.whole(0), 60);
        CHECK.due("meet in 60", Check.on("p16,1;r0;r0;r0;r1;r1;r0;y2,3;y1,5;e0,12;").meet(0, 1), 60);
        PulpitRoads apart = Check.on("p16,11;r1;r0;r0;r1;r1;r1;r1;r0;r2;e4,8;y3,0;e2,7;");
        CHECK.due("meet in 61", apart.meet(0, 1), Check.NONE);
        apart.hours(1);
        CHECK.due("an hour on", apart.meet(0, 1), 60);
        CHECK.due("round in 200", Check.on("p16,1;r1;r1;r2;r1;r0;d1,12;e4,3;y2,4;").round(), 200);
        CHECK.due("round in 201", Check.on("p15,8;r2;r0;r2;r2;r2;y2,9;b2,14;").round(), Check.NONE);
    }

    private static void noRoad() {
        PulpitRoads x = new PulpitRoads();
        CHECK.due("first: STATE ahead of BAD", x.first(9), Check.STATE);
        CHECK.due("left: STATE ahead of BAD", x.left(99), Check.STATE);
        CHECK.due("piece: STATE ahead of BAD", x.piece(9), Check.STATE);
        CHECK.due("drawn: STATE ahead of BAD", x.drawn(-1, -1, -1), Check.STATE);
        CHECK.due("round", x.round(), Check.STATE);
        CHECK.due("ahead", x.ahead(0, 0, 0), Check.BAD);
        CHECK.due("heard", x.heard(0, 0), Check.BAD);
        CHECK.due("whole", x.whole(0), Check.BAD);
        CHECK.due("meet", x.meet(0, 1), Check.BAD);
        CHECK.due("best", x.best(0, 0, 1, 0), Check.BAD);
        CHECK.due("walk", x.walk(0, 1, 0), Check.BAD);
        CHECK.due("fits", x.fits(0, 0, 0, 1, 0), Check.BAD);
        CHECK.due("axles", x.axles(0, 0, 0, 0), Check.BAD);
    }

    private static void nothingChanges() {
        PulpitRoads x = Check.on(FIVE);
        x.hours(2);
        x.row(0, 0, 12);
        int[] before = told(x);
        x.ahead(0, 60, 0);
        x.heard(0, 60);
        x.whole(0);
        x.first(0);
        x.left(60);
        x.meet(0, 1);
        x.round();
        x.best(0, 0, 30, 0);
        x.piece(0);
        x.walk(0, 8, 0);
        for (int what = 0; what < 4; what++) {
            x.fits(2, 0, 0, 12, what);
        }
        x.axles(0, 0, 5, 0);
        x.drawn(60, 6, 0);
        x.road();
        CHECK.due("the road", told(x), before);
    }

    private static int[] told(PulpitRoads x) {
        int[] told = new int[40];
        int i = 0;
        for (int p = 0; p < 5; p++) {
            told[i++] = x.pulpit(p, 0);
            told[i++] = x.pulpit(p, 1);
            told[i++] = x.kind(p);
        }
        for (int s = 0; s < 4; s++) {
            told[i++] = x.stretch(s, 0);
            told[i++] = x.stretch(s, 1);
        }
        for (int what = 0; what < 10; what++) {
            told[i++] = x.count(what);
        }
        return told;
    }
}
