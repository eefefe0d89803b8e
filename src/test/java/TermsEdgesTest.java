/** Edges of "Terms": its opening words, the rows of part 1, hours and acts of part 2. */
public final class TermsEdgesTest {
    private static final Edges EDGES = new Edges();

    public static void main(String[] args) {
        numbers();
        whichRefusalComesFirst();
        whatIsRefusedChangesNothing();
        rows();
        passes();
        hours();
        acts();
        gates();
        EDGES.end("TermsEdgesTest");
    }

    private static void edge(String sentence, String lines) {
        EDGES.edge("Terms", sentence, lines);
    }

    private static void numbers() {
        EDGES.edge("What it is", "An object is used for at most 512 calls after it has been made", """
            read ROUND = 1
            hours(1) = 0
            ahead(0, 60, 0) = 1 x490
            count(3) = 1
            """);
        edge("Numbers go from 0 on.", """
            row(0, 0, 1) = 1
            set(0, 0, 7) = 7
            read FIVE = 5
            pulpit(0, 0) = 0
            stretch(0, 0) = 0
            kind(0) = 1
            axles(0, 0, 0, 0) = 1
            ask(0, 1) = 0
            trace(0) = 21
            image(0) = 1
            set(0, -1, 7) = PLACE
            set(-1, 0, 7) = BAD
            pulpit(-1, 0) = BAD
            stretch(-1, 0) = BAD
            kind(-1) = BAD
            axles(0, -1, 0, 0) = BAD
            ask(0, -1) = BAD
            trace(-1) = NONE
            image(-1) = BAD
            """);
        edge("All that is divided is cut towards 0, but fractions, told as two numbers in lowest terms (0 is 0 by 1).", """
            read ROUND = 1
            axles(0, 0, 0..10, 0) = 1 9 4 7 3 1 2 3 1 1 0
            axles(0, 0, 0..10, 1) = 1 10 5 10 5 2 5 10 5 10 1
            # never said there: 0 by 1, whatever the axles
            axles(0, 3, 0..10, 0) = 0
            axles(0, 3, 0..10, 1) = 1
            """);
        edge("Sets are bits.", """
            read p16,0;r2;r2;r2;r2;r2;r2;r2;r2;r2;b8,12;d8,0;d8,0;d8,0;d8,0; = 5
            pulpit(0, 3) = 61440
            stretch(8, 2) = 31
            hours(1) = 0
            stretch(8, 1) = 61440
            left(0) = 4095
            stretch(0, 2) = 1
            read p4,0;r2;r2;r2;r2;r2;r2;r2;r2;r2;b8,0; = 1
            hours(1) = 256
            hours(1) = 257
            count(8) = 257
            """);
        edge("-1000010 less 1 NULL (a ROW that is missing), 2 PLACE (no such place of a ROW),"
            + " 3 KIND (a PULPIT that is not that), 4 SIZE (fewer than none), 5 STORE (ROWS of two LANES)", """
            drop(0) = -1000011
            status() = 1
            row(0, 0, 1) = 1
            set(0, 1, 0) = -1000012
            status() = 2
            read ROUND = 1
            as(0, 4) = -1000013
            status() = 3
            row(1, 0, -1) = -1000014
            status() = 4
            row(1, 1, 1) = 1
            copy(0, 0, 1, 0, 1) = -1000015
            status() = 5
            """);
        edge("BAD (a number is not as told; there is no such thing)", """
            # without a ROAD there are no PULPITS, STRETCHES, GATES, WORDS
            put(0, 0) = -1000001
            skip(0, 0) = BAD
            forget(0) = BAD
            pulpit(0, 0..3) = BAD
            stretch(0, 0..2) = BAD
            ahead(0, 0, 0..1) = BAD
            heard(0, 0) = BAD
            whole(0) = BAD
            meet(0, 1) = BAD
            best(0, 0, 1, 0..1) = BAD
            walk(0, 1, 0..1) = BAD
            row(0, 0, 1) = 1
            fits(0, 0, 0, 1, 0..3) = BAD
            axles(0, 0, 0, 0..1) = BAD
            kind(0) = BAD
            as(0, 0..5) = BAD
            ask(0, 0..1) = BAD
            """);
    }

    private static void whichRefusalComesFirst() {
        edge("Refusals are answers, the first of these that fits, but as told: BAD [..], STATE (as told)", """
            image(-1|2) = BAD
            image(0|1) = STATE
            restore(-1|2) = BAD
            restore(0|1) = STATE
            read ROUND = 1
            forget(-1|3) = BAD
            forget(0..2) = STATE
            put(0, 3) = BAD
            put(0, 0) = STATE
            """);
        edge("Refusals are answers, the first of these that fits, but as told: BAD [..], FULL (as told)", """
            feed(112) = 1
            feed(112) = 2
            feed pppppppppppppppppppppppppppppppppppppppppppppppppppppppppppppppppppppppppppppppppppppppp = 90
            feed(-1|256) = BAD
            feed(0|255) = FULL
            """);
        edge("Refusals are answers, the first of these that fits, but as told: BAD [..], then FINDINGS", """
            row(0|8|-1, 3, -1) = BAD
            row(8, 0, -1) = BAD
            row(0, 0, -1) = SIZE
            set(8|-1, -1, 0) = BAD
            set(0, -1, 0) = NULL
            copy(0, 0, 8, 0, 0) = BAD
            copy(8, 0, 0, 0, 0) = BAD
            copy(0, 0, 7, 0, 0) = NULL
            drop(8) = BAD
            drop(0) = NULL
            read EMPTY = 0
            fits(0, 0, -1, 1, 0) = BAD
            read ROUND = 1
            fits(1, 0, -1, 1, 0) = BAD
            fits(0, 8, -1, 1, 0) = BAD
            fits(0, 0, -1, 0|13, 0) = BAD
            fits(0, 0, -1, 1, 4) = BAD
            fits(0, 0, -1, 1, 0) = NULL
            as(1, 4) = BAD
            as(0, 6) = BAD
            as(0, 4) = KIND
            """);
        edge("Refusals are answers, the first of these that fits, but as told", """
            # told: no ROAD is ahead of BAD
            hours(!1..24|0|1) = STATE
            first(!0..1|0) = STATE
            left(!0..60|0) = STATE
            piece(!0..1|0) = STATE
            drawn(!0..60|0, 0|1|1000000, 0..2) = STATE
            """);
        edge("then FINDINGS, of several the first in time", """
            row(0, 0, 3) = 3
            row(1, 1, 3) = 3
            copy(0, -1, 2, 0, -1) = NULL
            copy(2, -1, 0, 0, -1) = NULL
            copy(2, -1, 2, 9, -1) = NULL
            copy(0, -1, 1, 0, 1) = STORE
            copy(0, 0, 1, 4, 0) = STORE
            copy(0, 0, 1, 0, -1) = STORE
            copy(0, 0, 0, 0, -1) = PLACE
            set(2, -1, 0) = NULL
            set(2, 40, 0) = NULL
            read ROUND = 1
            fits(0, 2, -1, 1, 0) = NULL
            fits(0, 2, 40, 12, 0) = NULL
            """);
    }

    /** The looks of Edges at all that can be seen are behind each of these. */
    private static void whatIsRefusedChangesNothing() {
        String much = """
            row(0, 0, 5) = 5
            set(0, 0..4, 3) = 3
            row(1, 1, 3) = 3
            set(1, 2, 8) = 8
            row(7, 2, 40) = 40
            set(7, 39, 5) = 5
            read x = FAULT0
            read FIVE = 5
            hours(3) = 0
            image(1) = 1
            put(0, 1) = 3
            skip(4, 6) = 7
            forget(3) = 6
            ask(1, 0) = -2
            feed p4,0; = 5
            as(0, 4) = KIND
            """;
        edge("What is refused, or found, changes nothing but status().", much + """
            row(!0..7, 0, 1) = BAD
            row(0, !0..2, 1) = BAD
            row(0, 0, 41|MAX) = BAD
            row(0|7, 0, -1|MIN) = SIZE
            set(!0..7, 0, 1) = BAD
            set(2, 0, 1) = NULL
            set(0, !0..4, 1) = PLACE
            copy(!0..7, 0, 0, 0, 1) = BAD
            copy(0, 0, !0..7, 0, 1) = BAD
            copy(2, 0, 0, 0, 1) = NULL
            copy(0, 0, 2, 0, 1) = NULL
            copy(0, 0, 1, 0, 1) = STORE
            copy(7, 39, 7, 0, 2) = PLACE
            copy(7, 0, 7, 39, 2) = PLACE
            drop(!0..7) = BAD
            drop(2) = NULL
            feed(!0..255) = BAD
            """);
        edge("What is refused, or found, changes nothing but status().", much + """
            hours(!1..24) = BAD
            put(!0..4, 0) = BAD
            put(0, !0..3) = BAD
            put(0, 1) = STATE
            skip(!0..4, 0) = BAD
            skip(0, !0..7) = BAD
            forget(!0..3) = BAD
            forget(3) = STATE
            image(!0..1) = BAD
            restore(!0..1) = BAD
            restore(0) = STATE
            as(!0..4, 0) = BAD
            as(0, !0..5) = BAD
            as(0, 2..5) = KIND
            ask(!0..4, 0) = BAD
            ask(0, !0..1) = BAD
            fits(0, 2, 0, 1, 0) = NULL
            fits(0, 0, 5, 1, 0..3) = PLACE
            """);
    }

    private static void rows() {
        edge("ROWS 0 .. 7 are missing (at first)", """
            count(0) = 0
            drop(0..7) = NULL
            set(0..7, 0, 0) = NULL
            copy(0..7, 0, 0..7, 0, 0) = NULL
            read ROUND = 1
            fits(0, 0..7, 0, 1, 0) = NULL
            """);
        edge("or have a LANE (0 bytes, 1 shorts, 2 ints)", """
            row(0, 0, 1) = 1
            row(1, 1, 1) = 1
            row(2, 2, 1) = 1
            row(3, !0..2, 1) = BAD
            set(0, 0, 127|128|255|256|-128|-129) = 127 -128 -1 0 -128 127
            set(1, 0, 32767|32768|65535|65536|-32768|-32769) = 32767 -32768 -1 0 -32768 32767
            set(2, 0, MAX|MIN|-1) = MAX MIN -1
            """);
        edge("and 0 to 40 ITEMS", """
            row(0, 0, 0) = 0
            set(0, 0, 0) = PLACE
            row(0, 1, 40) = 40
            set(0, 39, 9) = 9
            set(0, 40, 9) = PLACE
            row(0, 2, 41) = BAD
            row(0, 2, -1) = SIZE
            drop(0) = 40
            row(0, 2, 41) = BAD
            drop(0) = NULL
            """);
        edge("0 to 40 ITEMS, 0 at first", """
            read NINE = 1
            row(3, 0, 4) = 4
            # a box on STRETCH 8 comes to 0
            fits(0, 3, 0..3, 1, 1) = 256
            set(3, 0..3, 5) = 5
            fits(0, 3, 0..3, 1, 1) = 16
            row(3, 2, 2) = 2
            fits(0, 3, 0..1, 1, 1) = 256
            row(3, 1, 4) = 4
            fits(0, 3, 0..3, 1, 1) = 256
            set(3, 0..3, 5) = 5
            drop(3) = 4
            row(3, 1, 4) = 4
            fits(0, 3, 0..3, 1, 1) = 256
            """);
    }

    private static void passes() {
        edge("NEXT of a STRETCH is that of the next number (of the last one 0).", """
            read p4,0;r0;r0;r0;b1,0;d2,0; = 2
            hours(1) = 0
            pulpit(0..1, 0) = 2 0
            read p4,0;r0;r0;r0;r0;r0;r0;r0;r0;r0;b7,0;d8,0; = 2
            hours(1) = 0
            pulpit(0..1, 0) = 8 0
            """);
        edge("A PULPIT PASSES: it says as many WORDS as the GRADE of its STRETCH lets: 3 flat, 1 down, 4 up;"
            + " the GATE there HEARD each", """
            read p16,0;r0;r1;r2;b0,0;b1,0;b2,0; = 3
            pulpit(0..2, 3) = 7 1 15
            hours(1) = 0
            stretch(0..2, 1) = 7 1 15
            pulpit(0..2, 1) = 3 1 4
            # as many as there are: all, and its WORD is the same
            read p4,0;r2;r2;r2;b0,3; = 1
            pulpit(0, 3) = 15
            hours(1) = 1
            pulpit(0, 1) = 3
            """);
        edge("A box says them from its WORD on, one after another (behind the last one comes 0),"
            + " the one behind these is its WORD then, and goes on to NEXT", """
            read p5,0;r0;r1;r2;b0,3;b1,4;b2,4; = 3
            pulpit(0..2, 3) = 25 16 23
            hours(1) = 0
            pulpit(0..2, 1) = 1 0 3
            pulpit(0..2, 0) = 1 2 0
            stretch(0..2, 1) = 25 16 23
            read p16,0;r0;r1;r2;b0,15;b1,15;b2,12; = 3
            pulpit(0..2, 3) = 32771 32768 61440
            hours(1) = 0
            pulpit(0..2, 1) = 2 0 0
            """);
        edge("one that goes back likewise, but goes to the STRETCH whose NEXT that is", """
            read p5,0;r0;r1;r2;k0,3;k1,4;k2,4; = 3
            pulpit(0..2, 3) = 25 16 23
            hours(1) = 0
            pulpit(0..2, 1) = 1 0 3
            pulpit(0..2, 0) = 2 0 1
            read p4,0;r0;r0;r0;r0;r0;r0;r0;r0;r0;k0,0;k8,0; = 2
            hours(1) = 0
            pulpit(0..1, 0) = 8 7
            """);
        edge("one with a pony likewise to NEXT, but stays, if the HARD WORD was among those it said", """
            # the first of three, the last of them, the one behind them, the one before them
            read p8,3;r0;r0;r0;r0;y0,3;y1,1;y2,0;y3,4; = 4
            hours(1) = 0
            pulpit(0..3, 0) = 0 1 3 0
            pulpit(0..3, 1) = 6 4 3 7
            stretch(0..3, 1) = 56 14 7 112
            # over the end; one WORD alone; all four
            read p8,0;r0;r1;r2;y0,6;y1,0;y2,5; = 3
            hours(1) = 0
            pulpit(0..2, 0) = 0 1 2
            pulpit(0..2, 1) = 1 1 1
            # just not over the end
            read p8,0;r0;r1;r2;y0,5;y1,7;y2,4; = 3
            hours(1) = 0
            pulpit(0..2, 0) = 1 2 0
            pulpit(0..2, 1) = 0
            # others do not stay
            read p8,0;r0;r0;r0;b0,0;d1,0;e2,0; = 3
            hours(1) = 0
            pulpit(0..2, 0) = 1 2 0
            """);
        edge("a door says nothing, and goes on to NEXT", """
            read p4,0;r0;r1;r2;d0,0;d1,3;d2,1; = 3
            pulpit(0..2, 3) = 0
            hours(1) = 0
            pulpit(0..2, 0) = 1 2 0
            pulpit(0..2, 1) = 0 3 1
            stretch(0..2, 1) = 0
            """);
        edge("an echo goes on to NEXT, but says its WORD and those before it, one after another"
            + " (before 0 comes the last one), the one before these is its WORD then", """
            read p5,0;r0;r1;r2;e0,1;e1,0;e2,2; = 3
            pulpit(0..2, 3) = 19 1 23
            hours(1) = 0
            pulpit(0..2, 0) = 1 2 0
            pulpit(0..2, 1) = 3 4 3
            stretch(0..2, 1) = 19 1 23
            read p16,0;r0;r1;r2;e0,0;e1,15;e2,3; = 3
            pulpit(0..2, 3) = 49153 32768 15
            hours(1) = 0
            pulpit(0..2, 1) = 13 14 15
            """);
    }

    private static void hours() {
        edge("AN HOUR: PULPIT by PULPIT PASSES, but those in COUNCIL:"
            + " on whose STRETCH another one of a lesser number was", """
            read p16,0;r1;r1;r1;b2,0;b2,1;b2,2;b2,3;b2,4; = 5
            pulpit(0..4, 2) = 0 1 1 1 1
            hours(1) = 0
            pulpit(0..4, 0) = 0 2 2 2 2
            pulpit(0..4, 1) = 1 1 2 3 4
            stretch(2, 1) = 1
            pulpit(0..4, 2) = 0 0 1 1 1
            hours(3) = 0
            stretch(2, 1) = 15
            # a door, too, makes a COUNCIL
            read p16,0;r1;r1;r1;d0,0;b0,0; = 2
            pulpit(0..1, 2) = 0 1
            hours(1) = 0
            count(9) = 0
            # no other one there: none; one of a greater number: none
            read p16,0;r1;r1;r1;b0,0;b1,0;b0,0; = 3
            pulpit(0..2, 2) = 0 0 1
            """);
        edge("was as the HOUR began", """
            # 0 comes to 1, that goes on; 1 comes to 2, that went on
            read p16,0;r1;r1;r1;b0,0;b1,5; = 2
            hours(1) = 0
            pulpit(0..1, 0) = 1 2
            stretch(1, 1) = 32
            # 0 goes on, 1 stays all the same
            read p16,0;r1;r1;r1;b1,0;b1,5; = 2
            hours(1) = 0
            pulpit(0..1, 0) = 2 1
            stretch(1, 1) = 1
            # they meet; the COUNCIL is that of the HOUR behind it
            read p16,0;r1;r1;r1;k2,0;y1,5; = 2
            skip(1, 0) = 5
            pulpit(0..1, 2) = 0
            hours(1) = 0
            pulpit(0..1, 0) = 1
            pulpit(0..1, 2) = 0 1
            """);
        edge("HOUR is 1 more.", """
            read EMPTY = 0
            count(3) = 0
            hours(1) = 0
            count(3) = 1
            hours(24) = 0
            count(3) = 25
            """);
    }

    private static void acts() {
        edge("24 at most are kept, of more the oldest is forgotten", """
            read ROUND = 1
            hours(23) = 4
            count(6) = 23
            hours(1) = 4
            count(6) = 24
            put(0, 1) = 0
            count(6) = 24
            undo() = 23
            pulpit(0, 0) = 0
            count(3) = 24
            undo() = 22
            """);
        edge("24 at most are kept, of more the oldest is forgotten", """
            read ROUND = 1
            put(0, 2) = 0
            skip(0, 3) = 0
            hours(24) = 4
            # both are forgotten: what is left are the 24 HOURS
            undo() = 23
            hours(1) = 4
            forget(2) = 4
            skip(0, 1) = 3
            put(0, 0) = 2
            undo() = 23
            undo() = 22
            undo() = 21
            stretch(2, 1) = 15
            hours(24) = 4
            count(6) = 24
            count(3) = 48
            hours(1) = 4
            count(6) = 24
            """);
        edge("24 at most are kept, of more the oldest is forgotten", """
            read ROUND = 1
            hours(24) = 4
            hours(1) = 4
            undo() = 23
            undo() = 22
            undo() = 21
            undo() = 20
            undo() = 19
            undo() = 18
            undo() = 17
            undo() = 16
            undo() = 15
            undo() = 14
            undo() = 13
            undo() = 12
            undo() = 11
            undo() = 10
            undo() = 9
            undo() = 8
            undo() = 7
            undo() = 6
            undo() = 5
            undo() = 4
            undo() = 3
            undo() = 2
            undo() = 1
            undo() = 0
            undo() = STATE
            count(3) = 1
            pulpit(0, 0) = 1
            pulpit(0, 1) = 3
            stretch(0..2, 1) = 7 0 0
            """);
        edge("ACTS [..] an HOUR; a PULPIT is put on another STRETCH; its WORD is another; a GATE forgets all it HEARD", """
            read ROUND = 1
            count(6) = 0
            hours(1) = 0
            count(6) = 1
            hours(2) = 4
            count(6) = 3
            put(0, 1) = 0
            count(6) = 4
            skip(0, 3) = 0
            count(6) = 5
            forget(2) = 4
            count(6) = 6
            # what is refused is none, nor what is foretold, asked, kept, read in a row
            put(0, 1) = STATE
            forget(2) = STATE
            hours(25) = BAD
            ahead(0, 60, 0) = 1
            ask(0, 0) = 4
            image(0) = 1
            row(0, 0, 1) = 1
            count(6) = 6
            """);
        edge("each can be undone, the latest first", """
            read ROUND = 1
            hours(1) = 0
            put(0, 2) = 1
            skip(0, 1) = 3
            forget(0) = 3
            undo() = 3
            stretch(0, 1) = 7
            pulpit(0, 1) = 1
            undo() = 2
            pulpit(0, 1) = 3
            pulpit(0, 0) = 2
            undo() = 1
            pulpit(0, 0) = 1
            count(3) = 1
            undo() = 0
            count(3) = 0
            stretch(0, 1) = 0
            pulpit(0, 0) = 0
            pulpit(0, 1) = 0
            undo() = STATE
            """);
    }

    private static void gates() {
        edge("(GATES by their STRETCHES)", """
            read p4,0;r0;r0;r0;r0;r0;r0;r0;r1;r2;b8,1; = 1
            hours(1) = 256
            stretch(7..8, 1) = 0 15
            heard(7..8, 0) = 0 15
            whole(8) = 0
            first(0) = 8
            piece(1) = 256
            axles(7..8, 0, 10, 0) = 0 1
            best(0, 7..8, 1, 1) = 1 4
            count(8) = 256
            forget(7) = STATE
            forget(8) = 4
            stretch(8, 1) = 0
            forget(9) = BAD
            heard(9, 0) = BAD
            whole(9) = BAD
            axles(9, 0, 10, 0) = BAD
            best(0, 9, 1, 1) = BAD
            """);
    }
}
