/** Edges of "Terms", part 1: the tape, texts of roads, and their faults. */
public final class TextsEdgesTest {
    private static final Edges EDGES = new Edges();

    public static void main(String[] args) {
        tape();
        tokens();
        laws();
        stretches();
        pulpits();
        roadsThatStand();
        faults();
        ends();
        EDGES.end("TextsEdgesTest");
    }

    private static void edge(String sentence, String lines) {
        EDGES.edge("Terms, texts", sentence, lines);
    }

    private static void tape() {
        edge("TEXTS: THE TAPE has at most 90 bytes, that come one by one", """
            count(7) = 0
            feed LONGEST = 78
            feed b0,0;k1,1;y = 89
            feed(50) = 90
            feed(44) = FULL
            count(7) = 90
            # what came behind the 90th is not read: the sixth pulpit's letter has its fault
            road() = FAULT78
            fault() = 3
            count(7) = 0
            feed(112) = 1
            """);
    }

    private static void tokens() {
        edge("TOKENS: letters a to z (each by itself)", """
            # the bytes ahead of a and behind z, and the great letters
            read `4,0; = FAULT0
            read {4,0; = FAULT0
            read P4,0; = FAULT0
            read a4,0; = FAULT0
            read z4,0; = FAULT0
            read pp4,0; = FAULT1
            read p4,0;rr0; = FAULT6
            fault() = 1
            """);
        edge("NUMBERS (figures, 2 at most)", """
            read p4,0;r0;r1;r2;b0,0; = 1
            read p04,00;r00;r01;r02;b02,03; = 1
            pulpit(0, 0..1) = 2 3
            read p10,9;r0;r1;r2;b0,09; = 1
            count(4) = 10
            pulpit(0, 1) = 9
            # the bytes ahead of 0 and behind 9
            read p/,0; = FAULT1
            read p:,0; = FAULT1
            read p1/,0; = FAULT1
            fault() = 2
            read p8/,0; = FAULT2
            fault() = 1
            read p8:,0; = FAULT2
            read p-4,0; = FAULT1
            read p+4,0; = FAULT1
            """);
        edge("SIGNS , and ; nothing else, no blanks", """
            feed p4 = 2
            feed(32) = 3
            feed ,0; = 6
            road() = FAULT2
            feed(32) = 1
            feed p4 = 3
            road() = FAULT0
            feed p4,0;r0;r1;r2; = 14
            feed(10) = 15
            road() = FAULT14
            feed p4,0;r0;r1;r2; = 14
            feed(0) = 15
            road() = FAULT14
            feed p4,0;r0;r1;r2; = 14
            feed(255) = 15
            road() = FAULT14
            feed p = 1
            # 256 less than, and more than a figure is no byte
            feed(308) = BAD
            feed(-204) = BAD
            feed 4,0;r0;r1;r2; = 14
            road() = 0
            read p4.0; = FAULT2
            read p4+0; = FAULT2
            read p4-0; = FAULT2
            read p4,0: = FAULT4
            read p4,0< = FAULT4
            fault() = 1
            """);
    }

    private static void laws() {
        edge("law: p WORDS , HARD ; (4 to 16: the sermon has WORDS 0, 1, ..; one of these)", """
            read p4,0;r0;r0;r0; = 0
            count(4..5) = 4 0
            read p16,15;r0;r0;r0; = 0
            count(4..5) = 16 15
            read p3,0;r0;r0;r0; = FAULT1
            fault() = 2
            read p0,0;r0;r0;r0; = FAULT1
            read p17,0;r0;r0;r0; = FAULT1
            read p99,0;r0;r0;r0; = FAULT1
            read p03,0;r0;r0;r0; = FAULT1
            count(4..5) = 16 15
            read p4,3;r0;r0;r0; = 0
            read p4,4;r0;r0;r0; = FAULT3
            read p16,16;r0;r0;r0; = FAULT4
            read p16,99;r0;r0;r0; = FAULT4
            fault() = 2
            count(4..5) = 4 3
            """);
        edge("law: p WORDS , HARD ;", """
            # what is left out, and what is there twice
            read 4,0; = FAULT0
            read p,0; = FAULT1
            read p40; = FAULT1
            fault() = 2
            read p4;0; = FAULT2
            fault() = 1
            read p4,; = FAULT3
            read p4,0r0; = FAULT4
            read p4,0,1; = FAULT4
            read p4,0;; = FAULT5
            read p4,0;p4,0; = FAULT5
            fault() = 1
            """);
    }

    private static void stretches() {
        edge("stretch: r GRADE ; (0 flat, 1 down, 2 up", """
            read p4,0;r0;r1;r2; = 0
            stretch(0..2, 0) = 0 1 2
            read p4,0;r3;r1;r2; = FAULT6
            fault() = 2
            read p4,0;r0;r1;r9; = FAULT12
            read p4,0;r0;r1;r03; = FAULT12
            read p4,0;r0;r1;r10; = FAULT12
            fault() = 2
            read p4,0;r;r1;r2; = FAULT6
            fault() = 1
            read p4,0;r0,r1;r2; = FAULT7
            read p4,0;r0r1;r2; = FAULT7
            read p4,0;r0;1;r2; = FAULT8
            """);
        edge("road: law stretch stretch stretch { stretch } { pulpit }", """
            read p4,0; = FAULT5
            read p4,0;r0; = FAULT8
            read p4,0;r0;r0; = FAULT11
            read p4,0;b0,0; = FAULT5
            read p4,0;r0;b0,0; = FAULT8
            read p4,0;r0;r0;b0,0; = FAULT11
            fault() = 1
            count(1) = 0
            read p4,0;r0;r0;r0; = 0
            count(1..2) = 3 0
            read p4,0;r0;r0;r0;r0;b0,0; = 1
            count(1..2) = 4 1
            # a stretch behind a pulpit, a law behind a stretch
            read p4,0;r0;r0;r0;b0,0;r0; = FAULT19
            read p4,0;r0;r0;r0;p4,0; = FAULT14
            read r0;r0;r0;p4,0; = FAULT0
            fault() = 1
            count(1..2) = 4 1
            """);
        edge("STRETCHES 0 .. 8, 9 at most, in a ring; each has a GATE", """
            read p4,0;r0;r0;r0;r0;r0;r0;r0;r0;r2; = 0
            count(1) = 9
            stretch(8, 0) = 2
            stretch(9, 0) = BAD
            heard(0..9, 0) = 0 0 0 0 0 0 0 0 0 BAD
            read p4,0;r0;r0;r0;r0;r0;r0;r0;r0;r2;r0; = FAULT32
            fault() = 3
            read p4,0;r0;r0;r0;r0;r0;r0;r0;r0;r2;b8,0; = 1
            read p4,0;r0;r0;r0;r0;r0;r0;r0;r0;r2;b9,0; = FAULT33
            fault() = 2
            pulpit(0, 0) = 8
            """);
    }

    private static void pulpits() {
        edge("SORT: b a box, k one that goes back, y one with a pony, d a door that bangs, e an echo", """
            read p4,0;r0;r0;r0;b0,0;k0,0;y0,0;d0,0;e0,0; = 5
            kind(0..4) = 1 2 3 4 5
            read p4,0;r0;r0;r0;a0,0; = FAULT14
            read p4,0;r0;r0;r0;c0,0; = FAULT14
            read p4,0;r0;r0;r0;f0,0; = FAULT14
            read p4,0;r0;r0;r0;j0,0; = FAULT14
            read p4,0;r0;r0;r0;l0,0; = FAULT14
            read p4,0;r0;r0;r0;x0,0; = FAULT14
            read p4,0;r0;r0;r0;z0,0; = FAULT14
            read p4,0;r0;r0;r0;B0,0; = FAULT14
            read p4,0;r0;r0;r0;p0,0; = FAULT14
            fault() = 1
            count(2) = 5
            """);
        edge("pulpit: SORT STRETCH , WORD ; [..] a STRETCH; a WORD: the next one it says", """
            read p4,0;r0;r0;r0;b0,0;b2,3; = 2
            pulpit(0, 0..1) = 0 0
            pulpit(1, 0..1) = 2 3
            read p4,0;r0;r0;r0;b3,0; = FAULT15
            fault() = 2
            read p4,0;r0;r0;r0;b99,0; = FAULT15
            read p4,0;r0;r0;r0;b0,4; = FAULT17
            read p4,0;r0;r0;r0;b0,99; = FAULT17
            fault() = 2
            read p16,0;r0;r0;r0;b0,15; = 1
            read p16,0;r0;r0;r0;b0,16; = FAULT18
            read p4,0;r0;r0;r0;r0;r0;r0;r0;r0;b7,0; = 1
            read p4,0;r0;r0;r0;r0;r0;r0;r0;r0;b8,0; = FAULT30
            fault() = 2
            read p4,0;r0;r0;r0;b,0; = FAULT15
            read p4,0;r0;r0;r0;b0; = FAULT16
            fault() = 1
            """);
        edge("pulpit: SORT STRETCH , WORD ;", """
            read p4,0;r0;r0;r0;b0,; = FAULT17
            read p4,0;r0;r0;r0;b0,0, = FAULT18
            read p4,0;r0;r0;r0;b0,0b0,0; = FAULT18
            read p4,0;r0;r0;r0;bk0,0; = FAULT15
            read p4,0;r0;r0;r0;;b0,0; = FAULT14
            read p4,0;r0;r0;r0;,b0,0; = FAULT14
            read p4,0;r0;r0;r0;0,0; = FAULT14
            fault() = 1
            """);
        edge("PULPITS 0 .. 4, 5 at most", """
            read p4,0;r0;r0;r0; = 0
            kind(0) = BAD
            read p4,0;r0;r0;r0;b0,0;b0,0;b0,0;b0,0;e2,3; = 5
            kind(4) = 5
            kind(5) = BAD
            read p4,0;r0;r0;r0;b0,0;b0,0;b0,0;b0,0;b2,3;b0,0; = FAULT39
            fault() = 3
            count(2) = 5
            """);
    }

    private static void roadsThatStand() {
        edge("A ROAD that is read stands in place of the one before (none at first):"
            + " HOUR 0, no GATE HEARD anything; no ACT can be undone.", """
            image(0) = STATE
            count(1..6) = 0
            read FIVE = 5
            hours(24) = 15
            put(0, 1) = 0
            count(3) = 24
            count(6) = 24
            count(9) = 32
            ask(0, 1) = 1
            trace(0) = 21
            as(0, 4) = KIND
            read ROUND = 1
            count(1..9) = 3 1 0 4 1 0 0 0 0
            stretch(0..2, 0) = 0 1 2
            stretch(0..2, 1) = 0
            stretch(3, 1) = BAD
            pulpit(1, 0) = BAD
            kind(0) = 1
            undo() = STATE
            # what is no part of a ROAD stays
            trace(0) = 21
            status() = 3
            """);
        edge("A ROAD that is read stands in place of the one before", """
            # from few to many: nothing is left over from what was foretold
            read ROUND = 1
            hours(24) = 4
            drawn(60, 3, 1) = 3
            read p8,5;r0;r1;r2;r0;r1;r2;r0;r1;r2;b0,0;k2,3;y3,4;d1,7;e0,2; = 5
            stretch(0..8, 1) = 0
            stretch(0..8, 0) = 0 1 2 0 1 2 0 1 2
            pulpit(0..4, 0) = 0 2 3 1 0
            pulpit(0..4, 1) = 0 3 4 7 2
            count(3) = 0
            undo() = STATE
            # the same one once more begins anew
            hours(1) = 0
            read p8,5;r0;r1;r2;r0;r1;r2;r0;r1;r2;b0,0;k2,3;y3,4;d1,7;e0,2; = 5
            count(3) = 0
            count(9) = 0
            undo() = STATE
            """);
    }

    private static void faults() {
        edge("FAULTS, the first TOKEN that has one (its first byte)", """
            # two faults each
            read p17,99; = FAULT1
            read p4,9;r9; = FAULT3
            read p4,0;r9;r9; = FAULT6
            read p4,0;r0;r0;r0;b9,9; = FAULT15
            read p4,0;r0;r0;r0;b0,9;x = FAULT17
            fault() = 2
            read x4,9; = FAULT0
            fault() = 1
            # of a NUMBER of two figures the first
            read p10,10; = FAULT4
            fault() = 2
            # what comes behind a fault does not count: three figures, no token, too many
            read p3,000; = FAULT1
            fault() = 2
            read p4,0;r3;A = FAULT6
            fault() = 2
            read p4,0;r0;r0;r0;r0;r0;r0;r0;r0;r3;r0; = FAULT30
            fault() = 2
            """);
        edge("of one TOKEN the least: 1 it cannot stand there, or is none", """
            # a NUMBER beyond all where none can stand; a run of three figures beyond all
            read 99 = FAULT0
            fault() = 1
            read p4,0;99 = FAULT5
            fault() = 1
            read p999,0; = FAULT1
            fault() = 1
            read p4,0;r0;r0;r0;b999,0; = FAULT15
            fault() = 1
            # a tenth stretch where none can stand, behind a pulpit; a sixth pulpit's place
            read p4,0;r0;r0;r0;r0;r0;r0;r0;r0;r0;b0,0;r0; = FAULT37
            fault() = 1
            read p4,0;r0;r0;r0;b0,0;b0,0;b0,0;b0,0;b0,0;r0; = FAULT39
            fault() = 1
            read p4,0;r0;r0;r0;b0,0;b0,0;b0,0;b0,0;b0,0;x = FAULT39
            fault() = 1
            """);
        edge("a run of three figures, at its first", """
            read p004,0; = FAULT1
            read p0004,0; = FAULT1
            read p123456789,0; = FAULT1
            read p4,000; = FAULT3
            read p4,0000; = FAULT3
            read p4,0;r000;r0;r0; = FAULT6
            read p4,0;r0;r0;r0;b000,0; = FAULT15
            read p4,0;r0;r0;r0;b0,000; = FAULT17
            read p4,0;r0;r0;r0;b0,00000 = FAULT17
            # where no NUMBER can stand, too
            read 123 = FAULT0
            read p4,0;123 = FAULT5
            fault() = 1
            # two are none
            read p04,00;r00;r00;r00;b00,00; = 1
            # two runs are not one
            read p4,0;r0;r0;r0;b00,00;b00,00; = 2
            """);
        edge("2 a NUMBER that is not as told", """
            read p3 = FAULT1
            fault() = 2
            read p17 = FAULT1
            fault() = 2
            read p4,4 = FAULT3
            fault() = 2
            read p4,0;r3 = FAULT6
            fault() = 2
            read p4,0;r0;r0;r0;b3 = FAULT15
            fault() = 2
            read p4,0;r0;r0;r0;b2,4 = FAULT17
            fault() = 2
            """);
        edge("3 a stretch, a pulpit more than there is room for (its letter)", """
            read p4,0;r0;r0;r0;r0;r0;r0;r0;r0;r0;r = FAULT32
            fault() = 3
            read p = FAULT1
            fault() = 1
            read p4,0;r0;r0;r0;r0;r0;r0;r0;r0;r0;r9; = FAULT32
            fault() = 3
            read p4,0;r0;r0;r0;b0,0;k0,0;y0,0;d0,0;e0,0;b = FAULT39
            fault() = 3
            read p = FAULT1
            read p4,0;r0;r0;r0;b0,0;k0,0;y0,0;d0,0;e0,0;k9,9; = FAULT39
            fault() = 3
            read p = FAULT1
            read p4,0;r0;r0;r0;b0,0;k0,0;y0,0;d0,0;e0,0;y0,0; = FAULT39
            fault() = 3
            read p = FAULT1
            read p4,0;r0;r0;r0;b0,0;k0,0;y0,0;d0,0;e0,0;d0,0; = FAULT39
            fault() = 3
            read p = FAULT1
            read p4,0;r0;r0;r0;b0,0;k0,0;y0,0;d0,0;e0,0;e0,0; = FAULT39
            fault() = 3
            read p4,0;r0;r0;r0;b0,0;k0,0;y0,0;d0,0;e0,0;a0,0; = FAULT39
            fault() = 1
            """);
    }

    private static void ends() {
        edge("the end: how many bytes there are", """
            read = FAULT0
            fault() = 1
            read p = FAULT1
            read p1 = FAULT1
            fault() = 2
            read p16 = FAULT3
            fault() = 1
            read p16, = FAULT4
            read p16,0 = FAULT5
            read p16,0; = FAULT6
            read p16,0;r = FAULT7
            read p16,0;r2 = FAULT8
            read p16,0;r2; = FAULT9
            read p16,0;r2;r = FAULT10
            read p16,0;r2;r1 = FAULT11
            read p16,0;r2;r1; = FAULT12
            read p16,0;r2;r1;r = FAULT13
            read p16,0;r2;r1;r0 = FAULT14
            fault() = 1
            read p16,0;r2;r1;r0; = 0
            read p16,0;r2;r1;r0;b = FAULT16
            read p16,0;r2;r1;r0;b2 = FAULT17
            read p16,0;r2;r1;r0;b2, = FAULT18
            read p16,0;r2;r1;r0;b2,1 = FAULT19
            read p16,0;r2;r1;r0;b2,15 = FAULT20
            fault() = 1
            read p16,0;r2;r1;r0;b2,15; = 1
            count(7) = 0
            """);
        edge("the end: how many bytes there are", """
            # behind the longest text; what was on the tape before is not read
            read LONGEST = 5
            count(1..2) = 9 5
            pulpit(0..4, 0) = 8 7 6 5 4
            pulpit(0..4, 1) = 15 14 13 12 11
            read p4,0;r0; = FAULT8
            read p4,0;r0;r0;r0 = FAULT13
            fault() = 1
            read p4,0;r0;r0;r0; = 0
            """);
    }
}
