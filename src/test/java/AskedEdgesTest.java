/** Edges of promises 31 to 35: kinds, asks, the trace, counts; and of "Terms", part 4, on which they rest. */
public final class AskedEdgesTest {
    private static final Edges EDGES = new Edges();

    public static void main(String[] args) {
        kind();
        as();
        ask();
        trace();
        count();
        EDGES.end("AskedEdgesTest");
    }

    private static void kind() {
        EDGES.edge("Promise 31", "The KIND of a PULPIT, as told (1 to 5). BAD.", """
            kind(0) = BAD
            read EMPTY = 0
            kind(0) = BAD
            read ROUND = 1
            kind(0..1) = 1 BAD
            read FIVE = 5
            kind(0..4) = 1 2 3 4 5
            kind(!0..4) = BAD
            read p4,0;r0;r0;r0;e0,0;d0,0;y0,0;k0,0;b0,0; = 5
            kind(0..4) = 5 4 3 2 1
            """);
    }

    private static void as() {
        EDGES.edge("Terms, part 3", "KINDS of PULPITS: 0 PULPIT; 1 BOX, a PULPIT; 2 BACK, a BOX; 3 PONY, a BOX;"
            + " 4 DOOR, a PULPIT; 5 ECHO, a DOOR. By this it is asked.", """
            read FIVE = 5
            as(0, 0..5) = 0 0 KIND KIND KIND KIND
            as(1, 0..5) = 1 1 1 KIND KIND KIND
            as(2, 0..5) = 2 2 KIND 2 KIND KIND
            as(3, 0..5) = 3 KIND KIND KIND 3 KIND
            as(4, 0..5) = 4 KIND KIND KIND 4 4
            ask(0..4, 1) = 0 6 -995 96 200
            """);
        EDGES.edge("Promise 32", "A PULPIT is taken as one of a KIND (0 .. 5): its number. BAD; KIND: it is no such one.", """
            as(0, 0) = BAD
            read EMPTY = 0
            as(0, 0) = BAD
            read FIVE = 5
            as(!0..4, 0) = BAD
            as(0..4, !0..5) = BAD
            as(4, 5) = 4
            status() = 0
            as(0, 5) = KIND
            status() = 3
            as(5, 5) = BAD
            as(0, 6) = BAD
            status() = 3
            # it is what it was
            kind(0) = 1
            as(0, 0) = 0
            kind(0) = 1
            """);
    }

    /** FIVE with all on other places: box 0 on 1 at 6, back 1 on 2 at 3, pony 2 on 3 at 4, door 3 on 1 at 7, echo 4 on 0 at 2. */
    private static void ask() {
        String placed = "read p8,5;r0;r1;r2;r0;b1,6;k2,3;y3,4;d1,7;e0,2; = 5\n";
        EDGES.edge("Terms, part 4", "0 SIZE: 10 lent to all PULPITS: the WORD. 11 of BOXES: what 10 gives, and MARK."
            + " 12 of BACK ones: 0 less what 11 gives. 13 of DOORS: what 10 gives, less 100."
            + " 14 of ECHOES: what 13 gives, twice.", placed + """
            ask(0, 0) = 7
            trace(0..4) = 11 10 21 20 NONE
            ask(1, 0) = -9
            trace(0..6) = 12 11 10 24 21 20 NONE
            ask(2, 0) = -991
            trace(0..5) = 11 10 22 21 20 NONE
            ask(3, 0) = -93
            trace(0..2) = 13 10 NONE
            ask(4, 0) = -196
            trace(0..3) = 14 13 10 NONE
            """);
        EDGES.edge("Terms, part 4", "1 MARK: 20 lent to all PULPITS: the number. 21 of BOXES: what 20 gives, and the STRETCH."
            + " 22 of PONIES: what 21 gives, less 1000. 23 of DOORS: what 20 gives, less SIZE."
            + " 24 of BACK ones: what 21 gives, twice.", placed + """
            ask(0, 1) = 1
            trace(0..2) = 21 20 NONE
            ask(1, 1) = 6
            trace(0..3) = 24 21 20 NONE
            ask(2, 1) = -995
            trace(0..3) = 22 21 20 NONE
            ask(3, 1) = 96
            trace(0..4) = 23 20 13 10 NONE
            ask(4, 1) = 200
            trace(0..5) = 23 20 14 13 10 NONE
            """);
        EDGES.edge("Terms, part 4", "Of an ask the BODY told for the KIND begins, else that of the nearest KIND that it is, too,"
            + " else the one that is lent;"
            + " SIZE, MARK within others are asked of the same PULPIT anew", """
            # the least that there is, and the most: a pony's SIZE is a box's with the pony's MARK, an echo's MARK a door's
            read p16,0;r0;r0;r0;r0;r0;r0;r0;r0;r0;y0,0;b8,15;k8,15;d8,15;e8,15; = 5
            ask(0, 0..1) = -1000 -1000
            ask(1, 0..1) = 24 9
            ask(2, 0..1) = -35 20
            ask(3, 0..1) = -85 88
            ask(4, 0..1) = -170 174
            skip(4, 0) = 15
            ask(4, 0..1) = -200 204
            """);
        EDGES.edge("Promise 33", "An ASK (0, 1) of a PULPIT. BAD.", """
            ask(0, 0) = BAD
            read EMPTY = 0
            ask(0, 0) = BAD
            read FIVE = 5
            ask(!0..4, 0..1) = BAD
            ask(0..4, !0..1) = BAD
            trace(0) = NONE
            ask(4, 1) = 200
            ask(5, 1) = BAD
            # refused, it leaves THE TRACE
            trace(0..5) = 23 20 14 13 10 NONE
            """);
        EDGES.edge("Promise 33", "THE TRACE is empty ahead of it.", """
            read FIVE = 5
            ask(1, 0) = -9
            trace(0..6) = 12 11 10 24 21 20 NONE
            ask(0, 1) = 0
            trace(0..6) = 21 20 NONE NONE NONE NONE NONE
            ask(0, 1) = 0
            trace(0..6) = 21 20 NONE NONE NONE NONE NONE
            """);
    }

    private static void trace() {
        EDGES.edge("Terms, part 4", "ASKS of PULPITS, by BODIES, each of which leaves its number in THE TRACE as it begins (the first 16)", """
            # no ask leaves more than six: there is never a seventeenth
            read FIVE = 5
            ask(1, 0) = -9
            trace(0..16) = 12 11 10 24 21 20 NONE NONE NONE NONE NONE NONE NONE NONE NONE NONE NONE
            # a BODY begins ahead of those that it asks: 23 ahead of 20, 20 ahead of SIZE's
            ask(4, 1) = 200
            trace(0..16) = 23 20 14 13 10 NONE NONE NONE NONE NONE NONE NONE NONE NONE NONE NONE NONE
            """);
        EDGES.edge("Promise 34", "Number i of THE TRACE; NONE.", """
            trace(0|15|16|-1|MIN|MAX) = NONE
            read FIVE = 5
            trace(0) = NONE
            ask(1, 0) = -9
            trace(0|5|6|15|16|17|-1|MIN|MAX) = 12 20 NONE NONE NONE NONE NONE NONE NONE
            # it stays while the ROAD changes
            hours(1) = 0
            read EMPTY = 0
            trace(0|5|6) = 12 20 NONE
            """);
    }

    private static void count() {
        EDGES.edge("Promise 35", "How many: 0 ROWS", """
            count(0) = 0
            row(0..7, 0, 0) = 0
            count(0) = 8
            row(7, 1, 40) = 40
            count(0) = 8
            drop(0..7) = 0 0 0 0 0 0 0 40
            count(0) = 0
            """);
        EDGES.edge("Promise 35", "1 STRETCHES, 2 PULPITS, 3 the HOUR, 4 WORDS, 5 the HARD one", """
            count(1..5) = 0
            read p4,0;r0;r0;r0; = 0
            count(1..5) = 3 0 0 4 0
            hours(24) = 0
            count(1..5) = 3 0 24 4 0
            read LONGEST = 5
            count(1..5) = 9 5 0 16 15
            """);
        EDGES.edge("Promise 35", "6 ACTS that can be undone, 7 bytes on the tape", """
            count(6..7) = 0
            feed LONGEST = 78
            count(6..7) = 0 78
            road() = 5
            count(6..7) = 0
            feed LONGEST = 78
            feed 123456789012 = 90
            count(6..7) = 0 90
            feed(49) = FULL
            count(6..7) = 0 90
            hours(24) = 0
            count(6..7) = 24 90
            put(0, 0) = 5
            count(6..7) = 24 90
            undo() = 23
            count(6..7) = 23 90
            road() = FAULT78
            count(6..7) = 23 0
            """);
        EDGES.edge("Promise 35", "8 GATES (bits) that HEARD all, 9 how many WORDS all GATES HEARD, together", """
            count(8..9) = 0
            read p16,0;r2;r2;r2;r2;r2;r2;r2;r2;r2;b0,0; = 1
            count(8..9) = 0
            hours(1) = 0
            count(8..9) = 0 4
            # 36 WORDS a round: all of 16 at each GATE in the fourth
            hours(24) = 0
            count(8..9) = 0 100
            hours(3) = 1
            count(8..9) = 1 112
            hours(8) = 511
            count(8..9) = 511 144
            hours(24) = 511
            count(8..9) = 511 144
            """);
        EDGES.edge("Promise 35", "BAD.", """
            count(!0..9) = BAD
            read FIVE = 5
            count(!0..9) = BAD
            count(9) = 0
            """);
    }
}
