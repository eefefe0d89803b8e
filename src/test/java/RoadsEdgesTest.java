/** Edges of promises 6 to 15: the tape, roads, acts, and what is told of pulpits and stretches. */
public final class RoadsEdgesTest {
    private static final Edges EDGES = new Edges();

    public static void main(String[] args) {
        feed();
        road();
        fault();
        hours();
        lastHour();
        put();
        skip();
        forget();
        undo();
        pulpit();
        stretch();
        EDGES.end("RoadsEdgesTest");
    }

    private static void feed() {
        EDGES.edge("Promise 6", "A byte (0 to 255) comes behind the tape: how many it has.", """
            feed(0) = 1
            feed(255) = 2
            feed(!0..255) = BAD
            count(7) = 2
            road() = FAULT0
            feed(112) = 1
            feed 4,0;r0;r1;r2; = 14
            road() = 0
            # a byte is all of itself: 255 is no -1, and no end
            feed p4,0;r0;r1;r2; = 14
            feed(255) = 15
            road() = FAULT14
            """);
        EDGES.edge("Promise 6", "BAD; FULL.", """
            feed p4,0;r0;r0;r0;r0;r0;r0;r0;r0;r0;b0,0;b0,0;b0,0;b0,0;b0,0;xxxxxxxxxxxxxxxxxxxxxxxxxxxxxxxx = 89
            feed(0) = 90
            feed(0|112|255) = FULL
            feed(!0..255) = BAD
            count(7) = 90
            road() = FAULT57
            fault() = 1
            feed(0) = 1
            """);
    }

    private static void road() {
        EDGES.edge("Promise 7", "The tape, empty then, is read: how many PULPITS there are.", """
            read p4,0;r0;r0;r0; = 0
            count(7) = 0
            read p4,0;r0;r0;r0;b0,0; = 1
            read p4,0;r0;r0;r0;b0,0;b0,0;b0,0;b0,0;b0,0; = 5
            count(7) = 0
            # an empty tape tells no ROAD
            road() = FAULT0
            count(2) = 5
            # nothing of a tape comes to the next one
            read p4,0;r0;r0;r0;b = FAULT15
            read 0,0; = FAULT0
            """);
        EDGES.edge("Promise 7", "-1000100 less the place of a FAULT: all stays.", """
            row(2, 1, 3) = 3
            set(2, 1, 4) = 4
            read FIVE = 5
            hours(2) = 0
            image(0) = 1
            put(0, 0) = 2
            ask(2, 0) = -996
            as(2, 2) = KIND
            # a FAULT at the first byte, in the middle of all that is told, and at the end
            read x = -1000100
            read p4,0;r0;r0;r0;r0;r0;r0;r0;r0;r0;b0,0;b0,0;b0,0;b0,0;b0,4; = -1000155
            read p4,0;r0;r0;r0;b0,0 = -1000118
            count(1..7) = 4 5 2 8 5 3 0
            pulpit(0..4, 0) = 0 1 0 3 1
            trace(0) = 11
            status() = 3
            undo() = 2
            restore(0) = 1
            """);
    }

    private static void fault() {
        EDGES.edge("Promise 8", "The number of the latest FAULT; 0 before one.", """
            fault() = 0
            read ROUND = 1
            fault() = 0
            read p3,0; = FAULT1
            fault() = 2
            fault() = 2
            read p4,0;r0;r0;r0;b0,0;b0,0;b0,0;b0,0;b0,0;b0,0; = FAULT39
            fault() = 3
            road() = FAULT0
            fault() = 1
            read p3,0; = FAULT1
            # a ROAD that has none is no FAULT
            read ROUND = 1
            fault() = 2
            """);
    }

    private static void hours() {
        EDGES.edge("Promise 9", "n HOURS (1 to 24), an ACT each: GATES (bits) that HEARD all then.", """
            read p4,0;r2;r2;r2;r2;r2;r2;r2;r2;r2;b0,0; = 1
            hours(!1..24) = BAD
            hours(0) = BAD
            count(3) = 0
            hours(1) = 1
            count(3) = 1
            count(6) = 1
            hours(3) = 15
            count(6) = 4
            hours(5) = 511
            count(6) = 9
            hours(24) = 511
            count(3) = 33
            count(6) = 24
            forget(8) = 4
            hours(1) = 255
            """);
        EDGES.edge("Promise 9", "BAD; STATE: no ROAD (ahead of BAD)", """
            hours(1|24) = STATE
            hours(!1..24|0) = STATE
            # what is read with a FAULT is none
            read p4,0;r0;r0; = FAULT11
            hours(1) = STATE
            read EMPTY = 0
            hours(!1..24|0) = BAD
            hours(1) = 0
            """);
    }

    private static void lastHour() {
        EDGES.edge("Promise 9", "FULL: beyond HOUR 9999", """
            read p4,0;r0;r1;r2;d0,0; = 1
            hours(24) = 0 x416
            count(3) = 9984
            hours(16|17|24) = FULL
            hours(0|25) = BAD
            count(3) = 9984
            count(6) = 24
            hours(14) = 0
            hours(2) = FULL
            hours(1) = 0
            count(3) = 9999
            hours(1|24) = FULL
            hours(0|25) = BAD
            undo() = 23
            hours(2) = FULL
            hours(1) = 0
            """);
        EDGES.edge("Promise 9", "FULL: beyond HOUR 9999", """
            # what is no HOUR has room, and what is foretold is none
            read p4,0;r0;r1;r2;b0,0; = 1
            image(0) = 1
            hours(24) = 4 x416
            hours(15) = 4
            ahead(0, 60, 0) = 0
            heard(0, 60) = 7
            left(60) = 0
            round() = 3
            best(0, 0, 30, 1) = 4
            walk(0, 8, 0) = 4
            drawn(1, 1, 0) = 8
            put(0, 1) = 0
            skip(0, 1) = 0
            forget(2) = 4
            image(1) = 1
            hours(1) = FULL
            restore(0) = 1
            hours(24) = 4
            count(3) = 24
            restore(1) = 1
            count(3) = 9999
            hours(1) = FULL
            """);
        EDGES.edge("Promise 9", "FULL: beyond HOUR 9999", """
            # a box that says a WORD an HOUR, of twelve, on five STRETCHES: it is on 4 then, at WORD 3
            read p12,0;r1;r1;r1;r1;r1;b0,0; = 1
            hours(24) = 0 x2
            hours(24) = 31 x414
            hours(15) = 31
            pulpit(0, 0..1) = 4 3
            forget(0..4) = 12
            whole(0..4) = 57 58 59 60 56
            first(0..1) = 4 56
            left(0|11|12) = 4095 4 0
            axles(4, 3, 4, 0..1) = 3 5
            row(0, 0, 2) = 2
            set(0, 1, 1) = 1
            fits(0, 0, 0, 2, 0..3) = 58 16 4095 4095
            hours(1) = FULL
            """);
        EDGES.edge("Promise 9", "FULL: beyond HOUR 9999", """
            # a box and one that goes back, on five STRETCHES: from next to one another they are on one in three HOURS
            read p4,0;r0;r0;r0;r0;r0;b0,0;k2,0; = 2
            hours(24) = 31 x416
            hours(15) = 31
            pulpit(0..1, 0) = 4 1
            put(0, 0) = 4
            meet(0, 1) = 3
            hours(1) = FULL
            """);
    }

    private static void put() {
        EDGES.edge("Promise 10", "A PULPIT is put on a STRETCH: where it was.", """
            read p4,0;r0;r0;r0;r0;r0;r0;r0;r0;r0;b0,1;b0,0;b0,0;b0,0;e8,2; = 5
            put(0, 8) = 0
            put(4, 0) = 8
            put(0, 7) = 8
            put(0, 0) = 7
            pulpit(0..4, 0) = 0
            pulpit(0..4, 1) = 1 0 0 0 2
            count(6) = 4
            count(3) = 0
            count(9) = 0
            """);
        EDGES.edge("Promise 10", "BAD; STATE: it is there.", """
            put(0, 0) = BAD
            read EMPTY = 0
            put(0, 0) = BAD
            read FIVE = 5
            put(!0..4, 0) = BAD
            put(0..4, !0..3) = BAD
            put(0..4, 0) = STATE 2 3 1 STATE
            put(0..4, 0) = STATE
            put(5, 0) = BAD
            count(6) = 3
            """);
    }

    private static void skip() {
        EDGES.edge("Promise 11", "Its WORD is another: what it was.", """
            read p16,0;r0;r1;r2;b0,0;k1,15;y2,3;d0,1;e1,2; = 5
            skip(0, 15) = 0
            skip(0, 0) = 15
            skip(1..4, 15) = 15 3 1 2
            pulpit(0..4, 1) = 0 15 15 15 15
            pulpit(0..4, 0) = 0 1 2 0 1
            count(6) = 6
            count(9) = 0
            """);
        EDGES.edge("Promise 11", "Its WORD is another", """
            # no refusal is told for the one that it has
            read ROUND = 1
            skip(0, 0) = 0
            count(6) = 1
            undo() = 0
            """);
        EDGES.edge("Promise 11", "BAD.", """
            skip(0, 0) = BAD
            read EMPTY = 0
            skip(0, 0) = BAD
            read FIVE = 5
            skip(!0..4, 0) = BAD
            skip(0..4, !0..7) = BAD
            skip(4, 7) = 2
            read ROUND = 1
            skip(0, 4) = BAD
            skip(0, 3) = 0
            """);
    }

    private static void forget() {
        EDGES.edge("Promise 12", "A GATE forgets: how many WORDS it HEARD.", """
            read p16,0;r2;r2;r2;r2;r2;r2;r2;r2;r2;b8,0; = 1
            hours(1) = 0
            forget(8) = 4
            stretch(8, 1) = 0
            # 36 WORDS a round: all 16 at each GATE in four of them
            hours(24) = 0
            hours(13) = 511
            forget(0) = 16
            forget(8) = 16
            count(8) = 254
            count(9) = 112
            read p16,0;r1;r1;r1;b0,15; = 1
            hours(1) = 0
            forget(0) = 1
            forget(1) = STATE
            pulpit(0, 0..1) = 1 0
            """);
        EDGES.edge("Promise 12", "BAD; STATE: none.", """
            forget(0) = BAD
            read p4,0;r0;r0;r0;r0;r0;r0;r0;r0;r0;d0,0; = 1
            forget(!0..8) = BAD
            forget(0..8) = STATE
            hours(1) = 0
            # a door was there
            forget(0) = STATE
            count(6) = 1
            read ROUND = 1
            forget(3) = BAD
            hours(1) = 0
            forget(0) = 3
            forget(0) = STATE
            """);
    }

    private static void undo() {
        EDGES.edge("Promise 13", "The latest ACT is undone: how many can be undone yet.", """
            read p5,1;r0;r1;r2;b0,0; = 1
            hours(4) = 1
            stretch(0..2, 1) = 31 8 23
            # what was HEARD before stays HEARD
            undo() = 3
            stretch(0..2, 1) = 7 8 23
            undo() = 2
            stretch(0..2, 1) = 7 8 0
            pulpit(0, 0..1) = 2 4
            forget(0) = 3
            undo() = 2
            undo() = 1
            stretch(0..2, 1) = 7 0 0
            undo() = 0
            count(3) = 0
            undo() = STATE
            """);
        EDGES.edge("Promise 13", "The latest ACT is undone", """
            # all five PULPITS are where they were, at their WORDS, and all GATES HEARD what they did
            read FIVE = 5
            hours(1) = 0
            pulpit(0..4, 0) = 1 1 3 2 0
            pulpit(0..4, 1) = 3 7 7 7 2
            stretch(0..3, 1) = 7 0 120 112
            hours(1) = 0
            pulpit(0..4, 0) = 2 1 0 3 1
            pulpit(0..4, 1) = 4 7 2 7 7
            stretch(0..3, 1) = 7 8 120 243
            put(4, 3) = 1
            skip(4, 0) = 7
            forget(3) = 6
            undo() = 4
            stretch(0..3, 1) = 7 8 120 243
            undo() = 3
            pulpit(0..4, 1) = 4 7 2 7 7
            undo() = 2
            pulpit(0..4, 0) = 2 1 0 3 1
            undo() = 1
            pulpit(0..4, 0) = 1 1 3 2 0
            pulpit(0..4, 1) = 3 7 7 7 2
            stretch(0..3, 1) = 7 0 120 112
            undo() = 0
            pulpit(0..4, 0) = 0 2 3 1 0
            pulpit(0..4, 1) = 0 3 4 7 2
            stretch(0..3, 1) = 0
            """);
        EDGES.edge("Promise 13", "The latest ACT is undone", """
            # all nine GATES
            read p4,0;r2;r2;r2;r2;r2;r2;r2;r2;r2;b0,0; = 1
            hours(9) = 511
            undo() = 8
            stretch(0..8, 1) = 15 15 15 15 15 15 15 15 0
            forget(7) = 4
            forget(0) = 4
            undo() = 9
            undo() = 8
            stretch(0..8, 1) = 15 15 15 15 15 15 15 15 0
            hours(1) = 511
            """);
        EDGES.edge("Promise 13", "The latest ACT is undone", """
            # what is no ACT stays: rows, tape, images, trace, status
            read ROUND = 1
            hours(1) = 0
            row(0, 0, 2) = 2
            image(0) = 1
            feed p4 = 2
            ask(0, 1) = 1
            as(0, 4) = KIND
            undo() = 0
            count(0) = 1
            count(7) = 2
            trace(0..1) = 21 20
            status() = 3
            restore(0) = 1
            count(3) = 1
            """);
        EDGES.edge("Promise 13", "STATE: none.", """
            undo() = STATE
            read ROUND = 1
            undo() = STATE
            # nor by what is refused, foretold or asked
            put(0, 0) = STATE
            put(0, 3) = BAD
            skip(0, 4) = BAD
            forget(0) = STATE
            hours(25) = BAD
            ahead(0, 9, 0) = 0
            ask(0, 0) = 0
            undo() = STATE
            hours(1) = 0
            read ROUND = 1
            undo() = STATE
            hours(1) = 0
            image(0) = 1
            restore(0) = 1
            undo() = STATE
            count(3) = 1
            """);
    }

    private static void pulpit() {
        EDGES.edge("Promise 14", "Of a PULPIT: 0 the STRETCH, 1 its WORD, 2 whether it is in COUNCIL (1, 0) this HOUR,"
            + " 3 WORDS (bits) it would say now, did it PASS.", """
            read p16,0;r0;r1;r2;r0;r1;r2;r0;r1;r2;b0,14;k8,15;y8,0;d8,7;e0,1; = 5
            pulpit(0..4, 0) = 0 8 8 8 0
            pulpit(0..4, 1) = 14 15 0 7 1
            pulpit(0..4, 2) = 0 0 1 1 1
            # in COUNCIL, too
            pulpit(0..4, 3) = 49153 32775 15 0 32771
            """);
        EDGES.edge("Promise 14", "BAD.", """
            pulpit(0, 0) = BAD
            read EMPTY = 0
            pulpit(0, 0) = BAD
            read ROUND = 1
            pulpit(0, 0) = 0
            pulpit(!0..0, 0..3) = BAD
            pulpit(0, !0..3) = BAD
            read FIVE = 5
            pulpit(!0..4, 0..3) = BAD
            pulpit(0..4, !0..3) = BAD
            """);
    }

    private static void stretch() {
        EDGES.edge("Promise 15", "Of a STRETCH: 0 its GRADE, 1 what the GATE HEARD (bits), 2 PULPITS there (bits).", """
            read p16,0;r0;r1;r2;r0;r1;r2;r0;r1;r2;b8,12;d8,0;d8,0;d8,0;d8,0; = 5
            stretch(0..8, 0) = 0 1 2 0 1 2 0 1 2
            stretch(0..8, 1) = 0
            stretch(0..8, 2) = 0 0 0 0 0 0 0 0 31
            hours(1) = 0
            stretch(8, 1) = 61440
            stretch(0, 2) = 1
            stretch(8, 2) = 30
            """);
        EDGES.edge("Promise 15", "BAD.", """
            stretch(0, 0) = BAD
            read ROUND = 1
            stretch(!0..2, 0..2) = BAD
            stretch(0..2, !0..2) = BAD
            read p4,0;r0;r0;r0;r0;r0;r0;r0;r0;r0; = 0
            stretch(!0..8, 0..2) = BAD
            stretch(8, !0..2) = BAD
            """);
    }
}
