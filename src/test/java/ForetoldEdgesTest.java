/** Edges of promises 16 to 30: what is foretold, and images; and of "Terms", part 3, on which they rest. */
public final class ForetoldEdgesTest {
    private static final Edges EDGES = new Edges();

    public static void main(String[] args) {
        ahead();
        heard();
        whole();
        first();
        left();
        meet();
        round();
        best();
        piece();
        walk();
        fits();
        fitsAreRefused();
        axles();
        drawn();
        images();
        EDGES.end("ForetoldEdgesTest");
    }

    /** A box that says a word an hour on five stretches: behind h hours it is on h by 5, at word h by 13. */
    private static void ahead() {
        EDGES.edge("Promise 16", "STRETCH (what = 0), WORD (1) of a PULPIT, d HOURS on.", """
            read p13,0;r1;r1;r1;r1;r1;b0,0; = 1
            ahead(0, 0|1|59|60, 0) = 0 1 4 0
            ahead(0, 0|1|59|60, 1) = 0 1 7 8
            hours(1) = 0
            ahead(0, 0|1|59|60, 0) = 1 2 0 1
            ahead(0, 0|1|59|60, 1) = 1 2 8 9
            """);
        EDGES.edge("Promise 16", "BAD.", """
            ahead(0, 0, 0) = BAD
            read EMPTY = 0
            ahead(0, 0, 0) = BAD
            read FIVE = 5
            ahead(!0..4, 0, 0) = BAD
            ahead(0..4, !0..60, 0) = BAD
            ahead(0..4, 0, !0..1) = BAD
            ahead(4, 60, 1) = 6
            """);
        EDGES.edge("Terms, part 3", "FORETOLD (nothing changes) d HOURS on (0 to 60): STRETCH, WORD of a PULPIT;"
            + " what a GATE HEARD (bits).", """
            read FIVE = 5
            # an ACT that leaves all as it was
            skip(0, 0) = 0
            image(0) = 1
            row(0, 0, 12) = 12
            ask(0, 1) = 0
            ahead(0..4, 5, 0) = 1 2 2 0 1
            ahead(0..4, 60, 1) = 5 5 1 7 6
            heard(0..3, 6) = 63 232 251 255
            whole(0..3) = 9 15 7 5
            first(0..1) = 3 5
            left(0|2|60) = 255 0 0
            meet(0, 1) = 1
            round() = NONE
            best(0, 1, 9, 1) = 6
            piece(0..1) = NONE
            walk(0, 8, 1) = 5
            fits(0, 0, 0, 12, 0..3) = 0
            axles(2, 3, 4, 0..1) = 3 5
            drawn(60, 9, 0..1) = 32 4
            count(3) = 0
            undo() = 0
            """);
    }

    /** GATE 4 hears in the hours 5, 10, .. 60: the words 4, 9, 1, 6, 11, 3, 8, 0, 5, 10, 2, 7. */
    private static void heard() {
        EDGES.edge("Promise 17", "What a GATE HEARD (bits), d HOURS on.", """
            read p13,0;r1;r1;r1;r1;r1;b0,0; = 1
            heard(4, 0|4|5|10|59|60) = 0 0 16 528 3967 4095
            hours(5) = 0
            heard(4, 0) = 16
            forget(4) = 1
            heard(4, 0|5) = 0 512
            """);
        EDGES.edge("Promise 17", "BAD.", """
            heard(0, 0) = BAD
            read p4,0;r0;r0;r0;r0;r0;r0;r0;r0;r0; = 0
            heard(!0..8, 0) = BAD
            heard(0..8, !0..60) = BAD
            heard(8, 60) = 0
            read ROUND = 1
            heard(3, 0) = BAD
            heard(2, 0) = 0
            """);
    }

    /** The same box: GATE 0 hears in the hours 1, 6, .. 61, and has all 13 words with the last of these. */
    private static void whole() {
        EDGES.edge("Terms, part 3", "WHOLE: behind how many HOURS (0 to 60) a GATE HEARD all WORDS first; NONE.", """
            read p13,0;r1;r1;r1;r1;r1;b0,0; = 1
            whole(0..1) = NONE
            hours(1) = 0
            whole(0..1) = 60 NONE
            hours(1) = 0
            whole(0..1) = 59 60
            hours(24) = 0
            hours(24) = 0
            hours(10) = 0
            whole(0..1) = 1 2
            hours(1) = 1
            whole(0..1) = 0 1
            """);
        EDGES.edge("Promise 18", "WHOLE; NONE. BAD.", """
            whole(0) = BAD
            read p4,0;r2;r1;r1;r1;r1;r1;r1;r1;r1;b0,0; = 1
            whole(!0..8) = BAD
            # nine HOURS a round, and 12 WORDS: the other GATES hear the same one each time
            whole(0..8) = 1 NONE NONE NONE NONE NONE NONE NONE NONE
            hours(1) = 1
            whole(0) = 0
            read EMPTY = 0
            whole(0..2) = NONE
            whole(3) = BAD
            """);
    }

    private static void first() {
        EDGES.edge("Terms, part 3", "FIRST: the GATE that did first, of several the least; behind how many HOURS", """
            read p4,0;r0;r2;r2;b2,0;b1,0; = 2
            first(0..1) = 1 1
            hours(1) = 6
            first(0..1) = 1 0
            forget(1) = 4
            first(0..1) = 2 0
            read p4,0;r1;r1;r1;r1;r1;r1;r1;r1;r2;b8,0; = 1
            first(0..1) = 8 1
            # the first in time, though not the least
            read p4,0;r2;r1;r1;r1;r1;r1;r1;r1;r2;b7,0; = 1
            first(0..1) = 8 2
            """);
        EDGES.edge("Terms, part 3", "NONE (within 60)", """
            read p13,0;r1;r1;r1;r1;r1;b0,0; = 1
            first(0..1) = NONE
            hours(1) = 0
            first(0..1) = 0 60
            read EMPTY = 0
            first(0..1) = NONE
            """);
        EDGES.edge("Promise 19", "FIRST: the GATE (what = 0), behind how many HOURS (1); NONE."
            + " BAD; STATE: no ROAD (ahead of BAD).", """
            first(!0..1|0|1) = STATE
            read ROUND = 1
            first(0..1) = 2 3
            first(!0..1) = BAD
            """);
    }

    /** Four doors on five stretches let the one that goes back pass each fourth hour: 4, 8, .. 60, or 1, 5, .. 61. */
    private static void left() {
        EDGES.edge("Terms, part 3", "LEFT in n HOURS (0 to 60): WORDS (bits) that no GATE HEARD then.", """
            read p15,0;r1;r1;r1;r1;r1;d1,0;d2,0;d3,0;d4,0;k3,0; = 5
            left(0|3|4|56|59|60) = 32767 32767 32766 16384 16384 0
            read p16,0;r1;r1;r1;r1;r1;d1,0;d2,0;d3,0;d4,0;k0,0; = 5
            left(0|1|60) = 65535 65534 32768
            hours(1) = 0
            left(0|59|60) = 65534 32768 0
            forget(0) = 1
            left(0|60) = 65535 1
            """);
        EDGES.edge("Promise 20", "LEFT. BAD; STATE: no ROAD (ahead of BAD).", """
            left(!0..60|0|60) = STATE
            read EMPTY = 0
            left(!0..60) = BAD
            left(0|60) = 15
            """);
    }

    /** The pony loses a stretch each 16 hours, by its hard word; the door behind it gains one then. */
    private static void meet() {
        EDGES.edge("Terms, part 3", "MEET of two PULPITS: behind how many HOURS (0 to 60) they are on one STRETCH first; NONE.", """
            read p16,11;r1;r1;r1;r1;r1;r1;r1;r1;r1;y4,0;d0,0; = 2
            meet(0, 1) = 60
            meet(1, 0) = 60
            read p16,12;r1;r1;r1;r1;r1;r1;r1;r1;r1;y4,0;d0,0; = 2
            meet(0, 1) = NONE
            meet(1, 0) = NONE
            hours(1) = 0
            meet(0, 1) = 60
            put(1, 5) = 1
            meet(0, 1) = 0
            put(1, 4) = 5
            meet(0, 1) = 12
            # one comes over the end of the ring
            read p4,0;r0;r0;r0;r0;r0;r0;r0;r0;r0;b8,0;k1,0; = 2
            meet(0, 1) = 1
            """);
        EDGES.edge("Promise 21", "MEET; NONE. BAD (alike, too).", """
            meet(0, 1) = BAD
            meet(0, 0) = BAD
            read EMPTY = 0
            meet(0, 1) = BAD
            read ROUND = 1
            meet(0, 1) = BAD
            meet(0, 0) = BAD
            read p4,0;r0;r0;r0;b0,0;b1,0;b2,0;b0,0;b1,0; = 5
            meet(0..4, !0..4) = BAD
            meet(!0..4, 0..4) = BAD
            # 3 and 4 wait: 0 comes to 4
            meet(0, 1..4) = NONE NONE 0 1
            meet(0, 0) = BAD
            meet(1, 1) = BAD
            meet(4, 4) = BAD
            meet(5, 5) = BAD
            meet(-1, -1) = BAD
            """);
    }

    private static void round() {
        EDGES.edge("Terms, part 3", "ROUND: behind how many HOURS (1 to 200) all PULPITS are on their STRETCHES,"
            + " at their WORDS of now first; NONE.", """
            # at once: a pony that says all; no PULPITS
            read p4,1;r2;r0;r0;y0,0; = 1
            round() = 1
            read EMPTY = 0
            round() = 1
            # where it was, but not at its WORD: 8 of 5 WORDS in 3 HOURS; at its WORD, but not where it was
            read p5,1;r0;r1;r2;b0,0; = 1
            round() = 15
            read p4,0;r2;r2;r2;b0,0; = 1
            round() = 3
            # all five: ponies that stay; a door that comes to one of these, and waits for ever; doors that go round
            read p4,0;r2;r2;r2;r2;r2;r2;r2;r2;r2;y0,0;y1,0;y2,0;y3,0;y4,0; = 5
            round() = 1
            read p4,0;r2;r2;r2;r2;r2;r2;r2;r2;r2;y0,0;y1,0;y2,0;y3,0;d5,0; = 5
            put(0, 8) = 0
            round() = NONE
            read p4,0;r0;r0;r0;r0;r0;r0;r0;r0;r0;d0,0;d2,0;d4,0;d6,0;d8,0; = 5
            round() = 9
            # found by going on: the last HOUR, and one more
            read p16,1;r1;r1;r2;r1;r0;d1,12;e4,3;y2,4; = 3
            round() = 200
            read p15,8;r2;r0;r2;r2;r2;y2,9;b2,14; = 2
            round() = NONE
            # never: it comes to where it stays
            read p4,1;r2;r0;r0;y1,0; = 1
            round() = NONE
            """);
        EDGES.edge("Promise 22", "ROUND; NONE. STATE: no ROAD.", """
            round() = STATE
            read p4,0;r0;r0; = FAULT11
            round() = STATE
            read ROUND = 1
            round() = 3
            # of now, whatever was HEARD, and whatever the HOUR is
            hours(1) = 0
            round() = 3
            put(0, 0) = 1
            # word 3 at STRETCH 0: 3 WORDS, 1, 4 of 4
            round() = 3
            """);
    }

    private static void best() {
        EDGES.edge("Terms, part 3", "PUT for a PULPIT, a GATE, n HOURS (1 to 30)", """
            # the box passes GATE 0 in the hours 5, 10, .. 30; where the door is put is all the same
            read p13,0;r1;r1;r1;r1;r1;b1,0;d3,0; = 2
            best(1, 0, 1|4|5|29|30, 1) = 0 0 1 5 6
            best(1, 0, 1|4|5|29|30, 0) = 0
            best(0, 0, 1|30, 1) = 1 6
            best(0|1, 0, !1..30, 0..1) = BAD
            best(0, 0, 0, 0) = BAD
            """);
        EDGES.edge("Terms, part 3", "the STRETCH on which the PULPIT, put there now (or left), lets the GATE have HEARD"
            + " most WORDS behind them, of several the first; how many", """
            read p4,0;r1;r1;r1;r1;r1;r1;r1;r1;r2;b4,0; = 1
            # the last one; the first one; where it is
            best(0, 8, 1, 0..1) = 8 4
            best(0, 0, 1, 0..1) = 0 1
            best(0, 4, 1, 0..1) = 4 1
            # from 7 or 8 in two HOURS; from 8 over the end
            best(0, 8, 2, 0..1) = 7 4
            best(0, 0, 2, 0..1) = 0 1
            # what it HEARD counts, and if it HEARD all, no place is better
            put(0, 8) = 4
            hours(1) = 256
            best(0, 8, 1, 0..1) = 0 4
            put(0, 3) = 0
            skip(0, 2) = 0
            hours(1) = 256
            best(0, 3, 1, 0..1) = 3 2
            """);
        EDGES.edge("Promise 23", "PUT: the STRETCH (what = 0), how many WORDS (1). BAD.", """
            best(0, 0, 1, 0) = BAD
            read EMPTY = 0
            best(0, 0, 1, 0) = BAD
            read FIVE = 5
            best(!0..4, 0, 1, 0) = BAD
            best(0, !0..3, 1, 0) = BAD
            best(0, 0, !1..30, 0) = BAD
            best(0, 0, 1, !0..1) = BAD
            best(4, 3, 30, 0..1) = 0 8
            """);
    }

    private static void piece() {
        EDGES.edge("Terms, part 3", "PIECE: the fewest GATES that HEARD all WORDS together by now: how many;"
            + " which (bits), of several the least; NONE.", """
            # all nine, a WORD each
            read p9,0;r1;r1;r1;r1;r1;r1;r1;r1;r1;b0,0; = 1
            piece(0..1) = NONE
            hours(8) = 0
            piece(0..1) = NONE
            hours(1) = 0
            piece(0..1) = 9 511
            # one is fewer than two, though 3 is less than 4
            read ROUND = 1
            hours(2) = 0
            piece(0..1) = 2 3
            hours(1) = 4
            piece(0..1) = 1 4
            forget(2) = 4
            piece(0..1) = 2 3
            forget(1) = 1
            piece(0..1) = NONE
            # the last one alone
            read p4,0;r2;r2;r2;r2;r2;r2;r2;r2;r2;b8,0; = 1
            hours(1) = 256
            piece(0..1) = 1 256
            hours(1) = 257
            piece(0..1) = 1 1
            """);
        EDGES.edge("Terms, part 3", "which (bits), of several the least", """
            # GATES 0 and 1 HEARD 0 and 1, GATE 2 HEARD 2 and 3
            read p4,0;r1;r1;r1;b0,0; = 1
            hours(1) = 0
            put(0, 0) = 1
            hours(1) = 0
            skip(0, 0) = 2
            hours(1) = 0
            put(0, 1) = 2
            hours(2) = 0
            put(0, 2) = 0
            hours(1) = 0
            stretch(0..2, 1) = 3 3 12
            piece(0..1) = 2 5
            """);
        EDGES.edge("Promise 24", "PIECE: how many (what = 0), which (1); NONE. BAD; STATE: no ROAD (ahead of BAD).", """
            piece(!0..1|0|1) = STATE
            read EMPTY = 0
            piece(!0..1) = BAD
            piece(0..1) = NONE
            read p4,0;r0;r0;r2;b2,0; = 1
            hours(1) = 4
            piece(!0..1) = BAD
            piece(0..1) = 1 4
            """);
    }

    private static void walk() {
        EDGES.edge("Terms, part 3", "WALK from a STRETCH, n HOURS (1 to 8): one who is there, and in each HOUR ahead of it"
            + " stays, or goes on to NEXT, hears what is said on his STRETCH in it: the most WORDS he can have heard", """
            read p16,0;r1;r1;r1;r1;r1;r1;r1;r1;r1;b1,0; = 1
            # with it all along: going ahead of each HOUR, or of each but the first
            walk(0, 1|7|8, 0) = 1 7 8
            walk(0, 1|7|8, 1) = 1 127 255
            walk(1, 1|7|8, 0) = 1 7 8
            walk(1, 1|7|8, 1) = 0 126 254
            # he waits for it
            walk(2, 1|2|8, 0) = 0 1 7
            walk(2, 1|2|8, 1) = 0 0 252
            # over the end of the ring; too far behind it to come up with it, but by waiting for eight HOURS
            put(0, 0) = 1
            walk(8, 1|8, 0) = 1 8
            walk(8, 1|8, 1) = 1 255
            walk(7, 7, 0..1) = 0
            walk(7, 8, 0..1) = 1 0
            """);
        EDGES.edge("Terms, part 3", "of the ways to it that first told as bits (bit h: he goes ahead of HOUR h from now on,"
            + " 0 the first) that is the least number", """
            # ahead of the second HOUR alone: it was there, and goes on
            read ROUND = 1
            walk(0, 2, 0..1) = 4 2
            # by going with it (3, 7), too, but also by staying until it comes
            read ROUND = 1
            walk(2, 3, 0..1) = 4 0
            # what the GATE HEARD is not his
            hours(3) = 4
            walk(2, 1, 0..1) = 3 1
            # nothing to hear
            read EMPTY = 0
            walk(0..2, 8, 0) = 0
            walk(0..2, 8, 1) = 0
            # he is there twice: the same WORDS count once
            read p4,0;r2;r2;r2;y0,0; = 1
            walk(0, 8, 0..1) = 4 0
            walk(2, 8, 0..1) = 4 1
            walk(1, 2, 0..1) = 4 3
            walk(1, 1, 0..1) = 0 0
            """);
        EDGES.edge("Promise 25", "WALK: the most (what = 0), the way as bits (1). BAD.", """
            walk(0, 1, 0) = BAD
            read ROUND = 1
            walk(!0..2, 1, 0) = BAD
            walk(0, !1..8, 0) = BAD
            walk(0, 0, 0) = BAD
            walk(0, 1, !0..1) = BAD
            walk(0, 1, 0..1) = 3 0
            read p4,0;r0;r0;r0;r0;r0;r0;r0;r0;r0;b8,0; = 1
            walk(!0..8, 1, 0) = BAD
            walk(8, 1, 0) = 3
            """);
    }

    private static void fits() {
        EDGES.edge("Terms, part 3", "A row tells the STRETCH of a PULPIT behind each of n HOURS (1 to 12) from now on.", """
            read NINE = 1
            row(0, 1, 13) = 13
            set(0, 0, 1) = 1
            set(0, 1, 2) = 2
            set(0, 2, 3) = 3
            set(0, 3, 4) = 4
            set(0, 4, 5) = 5
            set(0, 5, 6) = 6
            set(0, 6, 7) = 7
            set(0, 7, 8) = 8
            set(0, 8, 0) = 0
            set(0, 9, 1) = 1
            set(0, 10, 2) = 2
            set(0, 11, 3) = 3
            set(0, 12, 4) = 4
            fits(0, 0, 0, 1|12, 1) = 1
            fits(0, 0, 1, 1|12, 1) = 2
            fits(0, 0, 12, 1, 1) = 8
            # not so in the last HOUR, or in the first
            set(0, 11, 4) = 4
            fits(0, 0, 0, 11, 0..3) = 50 1 15 15
            fits(0, 0, 0, 12, 0..3) = 0
            set(0, 11, 3) = 3
            set(0, 0, 2) = 2
            fits(0, 0, 0, 12, 0..3) = 0
            # from now on
            hours(1) = 0
            fits(0, 0, 1, 12, 0..3) = 50 2 15 15
            """);
        EDGES.edge("Terms, part 3", "SORTS: KINDS (bits 1 to 5) of it by which it is so", """
            # in COUNCIL each KIND stays
            read p4,0;r0;r0;r0;d0,0;b0,0; = 2
            row(0, 0, 2) = 2
            fits(1, 0, 0, 1, 0) = 62
            # on: box, door, echo; the pony does not say the HARD one
            read p8,7;r0;r0;r0;k0,0; = 1
            set(0, 0, 1) = 1
            fits(0, 0, 0, 1, 0) = 58
            # back; staying: the pony alone
            set(0, 0, 2) = 2
            fits(0, 0, 0, 1, 0) = 4
            skip(0, 5) = 0
            set(0, 0, 0) = 0
            fits(0, 0, 0, 1, 0) = 8
            set(0, 0, 1) = 1
            fits(0, 0, 0, 1, 0) = 50
            """);
        EDGES.edge("Terms, part 3", "STARTS: STRETCHES (bits) of it now", """
            read NINE = 1
            row(0, 0, 1) = 1
            set(0, 0, 0) = 0
            fits(0, 0, 0, 1, 1) = 256
            set(0, 0, 8) = 8
            fits(0, 0, 0, 1, 1) = 128
            # put where another one is it stays there
            read p4,0;r0;r0;r0;d0,0;b1,0; = 2
            set(0, 0, 0) = 0
            fits(1, 0, 0, 1, 1) = 5
            # no STRETCH: beyond the last, below the first
            set(0, 0, 3) = 3
            fits(1, 0, 0, 1, 0..3) = 0
            set(0, 0, -1) = -1
            fits(1, 0, 0, 1, 0..3) = 0
            set(0, 0, 127) = 127
            fits(1, 0, 0, 1, 0..3) = 0
            row(0, 2, 1) = 1
            set(0, 0, MIN) = MIN
            fits(1, 0, 0, 1, 0..3) = 0
            set(0, 0, MAX) = MAX
            fits(1, 0, 0, 1, 0..3) = 0
            """);
        EDGES.edge("Terms, part 3", "HARDS: WORDS (bits) that may be HARD; AT: WORDS (bits) that may be its WORD now", """
            # a pony that says 15, 0, 1 of 16 and the HARD one is 15: it stays by these, and by 13, 14, 15
            read p16,15;r0;r0;r0;y0,15; = 1
            row(0, 0, 1) = 1
            fits(0, 0, 0, 1, 2..3) = 32771 57344
            set(0, 0, 1) = 1
            fits(0, 0, 0, 1, 2..3) = 32764 8191
            # a box goes on by all
            read p16,15;r0;r0;r0;b0,15; = 1
            fits(0, 0, 0, 1, 2..3) = 65535
            set(0, 0, 0) = 0
            fits(0, 0, 0, 1, 2..3) = 0
            # a box that has to wait while a pony of a lesser number stays tells the HARD one of that pony
            read p4,1;r0;r0;r0;y0,2;b0,0; = 2
            row(0, 0, 2) = 2
            fits(1, 0, 0, 2, 2..3) = 13 0
            set(0, 1, 1) = 1
            fits(1, 0, 0, 2, 2..3) = 2 15
            """);
    }

    private static void fitsAreRefused() {
        EDGES.edge("Promise 26", "SORTS (what = 0), STARTS (1), HARDS (2), AT (3) by STRETCHES of a PULPIT,"
            + " n ITEMS of a ROW from i on. BAD: PULPIT, ROW, n, what; NULL; PLACE.", """
            row(0, 0, 13) = 13
            fits(0, 0, 0, 1, 0) = BAD
            read EMPTY = 0
            fits(0, 0, 0, 1, 0) = BAD
            read FIVE = 5
            fits(!0..4, 0, 0, 1, 0) = BAD
            fits(0, !0..7, 0, 1, 0) = BAD
            fits(0, 0, 0, !1..12, 0) = BAD
            fits(0, 0, 0, 0, 0) = BAD
            fits(0, 0, 0, 1, !0..3) = BAD
            fits(0, 1, 0, 1, 0..3) = NULL
            fits(0, 0, !0..12, 1, 0..3) = PLACE
            fits(0, 0, 2, 12, 0) = PLACE
            fits(0, 0, 1, 12, 0) = 0
            fits(0, 0, MAX|MIN|-1, 12, 0) = PLACE
            row(0, 0, 0) = 0
            fits(0, 0, 0, 1, 0) = PLACE
            row(0, 0, 1) = 1
            fits(0, 0, 0, 1|2, 3) = 0 PLACE
            row(0, 2, 40) = 40
            fits(0, 0, 28|29, 12, 0) = 0 PLACE
            fits(0, 0, 39|40, 1, 1) = 8 PLACE
            """);
    }

    private static void axles() {
        EDGES.edge("Terms, part 3", "AXLES: each PULPIT does not PASS in the next HOUR by c of 10, each by itself"
            + " (COUNCILS are as they are): that a GATE HEARD a WORD behind it: a fraction", """
            # 1 is in COUNCIL, whether 0 PASSES or not; a door says nothing
            read p8,0;r0;r0;r0;b0,0;b0,4;d1,0;e2,0; = 4
            axles(0, 0..7, 4, 0) = 3 3 3 0 0 0 0 0
            axles(0, 0..7, 4, 1) = 5 5 5 1 1 1 1 1
            axles(1, 0..7, 4, 0) = 0
            axles(1, 0..7, 4, 1) = 1
            # the echo says 0, 7, 6
            axles(2, 0..7, 5, 0) = 1 0 0 0 0 0 1 1
            axles(2, 0..7, 5, 1) = 2 1 1 1 1 1 2 2
            # never, and surely
            axles(0, 0, 0|10, 0) = 1 0
            axles(0, 0, 0|10, 1) = 1
            # what the GATE HEARD it has, whatever breaks
            hours(1) = 0
            axles(0, 0, 0|5|10, 0) = 1
            axles(0, 0, 0|5|10, 1) = 1
            axles(0, 4, 0|5|10, 0) = 1 1 0
            axles(0, 4, 0|5|10, 1) = 1 2 1
            # the last WORD that it HEARD, and the one behind it, that nobody says
            axles(0, 2|3, 10, 0) = 1 0
            # the last of five PULPITS; and where none of them is
            read p4,0;r0;r0;r0;r0;d0,0;d1,0;d2,0;d2,0;b3,3; = 5
            axles(3, 0..3, 5, 0) = 1 1 0 1
            axles(0..2, 0..3, 5, 0) = 0
            # those of the ROAD before are there no more
            read p4,0;r0;r0;r0;r0;d0,0; = 1
            axles(3, 0..3, 5, 0) = 0
            """);
        EDGES.edge("Promise 27", "AXLES (c 0 to 10): above (what = 0), below (1). BAD.", """
            axles(0, 0, 0, 0) = BAD
            read p4,0;r0;r0;r0;r0;r0;r0;r0;r0;r0; = 0
            axles(!0..8, 0, 0, 0) = BAD
            axles(0, !0..3, 0, 0) = BAD
            axles(0, 0, !0..10, 0) = BAD
            axles(0, 0, 0, !0..1) = BAD
            axles(8, 3, 0|10, 0..1) = 0 1 0 1
            read p16,0;r0;r0;r0;b0,15; = 1
            axles(0, 15, 1, 0..1) = 9 10
            axles(0, 16, 1, 0) = BAD
            axles(3, 0, 1, 0) = BAD
            """);
    }

    /** A box is on the stretch that lets it say one word; 3 or 4 are said where it is put. */
    private static void drawn() {
        EDGES.edge("Terms, part 3", "AGES of n HOURS (0 to 60) by a SEED (X at first): ahead of each X becomes"
            + " the rest of (X times 16807) by 2147483647", """
            read p4,0;r0;r1;r2;b1,0; = 1
            # 16807: by 3 it leaves 1, so it is left; 3 times that by 3 leaves 0
            drawn(1, 1, 0..1) = 1 0
            drawn(1, 3, 0..1) = 3 0
            # 127773 times: 2147480811, put on 0; 127774 times, the first beyond: 13971, put on 0
            drawn(1, 127773, 0..1) = 3 0
            drawn(1, 127774, 0..1) = 3 0
            # 2147480811 times 16807: 2099818995, put on 0 again, that heard 0, 1, 2, and then 3
            drawn(2, 127773, 0..1) = 4 1
            """);
        EDGES.edge("Terms, part 3", "the PULPIT that is the rest of X by how many there are is put on the STRETCH"
            + " that is the rest of X by how many there are, if X by 3 leaves 0 (no PULPITS: none)", """
            # 50421 by 2 leaves 1: the box, in COUNCIL until then, on 0
            read p4,0;r0;r1;r2;d1,0;b1,0; = 2
            drawn(1, 1, 0) = 0
            drawn(1, 3, 0) = 3
            # 100842 by 4 leaves 2
            read p4,0;r0;r1;r2;r1;b1,0; = 1
            drawn(1, 6, 0..1) = 4 1
            read EMPTY = 0
            drawn(1, 3, 0..1) = 0
            drawn(60, 999999, 0..1) = 0
            """);
        EDGES.edge("Terms, part 3", "AGES of n HOURS (0 to 60) by a SEED [..] then the HOUR: how many WORDS all GATES HEARD, together;"
            + " how many GATES HEARD all", """
            read p4,0;r2;r2;r2;r2;r2;r2;r2;r2;r2;b0,0; = 1
            drawn(0, 1, 0..1) = 0
            drawn(1, 1, 0..1) = 4 1
            drawn(60, 1, 0..1) = 36 9
            hours(3) = 7
            drawn(0, 999999, 0..1) = 12 3
            """);
        EDGES.edge("Promise 28", "AGES by a SEED (1 to 999999): how many WORDS (what = 0), GATES (1)."
            + " BAD; STATE: no ROAD (ahead of BAD).", """
            drawn(!0..60|0, 1, 0) = STATE
            drawn(0, !1..999999|1, 0) = STATE
            drawn(0, 1, !0..1|0) = STATE
            read EMPTY = 0
            drawn(!0..60, 1, 0) = BAD
            drawn(0, !1..999999, 0) = BAD
            drawn(0, 0, 0) = BAD
            drawn(0, 1, !0..1) = BAD
            drawn(0|60, 1|999999, 0..1) = 0
            # 16807 and 1774597664: by 3 they leave 1 and 2, so the box is left
            read p4,0;r0;r1;r2;b1,0; = 1
            drawn(1, 1|999999, 0) = 1
            """);
    }

    private static void images() {
        EDGES.edge("Promise 29", "An IMAGE (0, 1) is kept of the ROAD: 1.", """
            read FIVE = 5
            hours(2) = 0
            image(0) = 1
            # no ACT, and none is lost
            count(6) = 2
            hours(1) = 0
            image(1) = 1
            image(1) = 1
            read ROUND = 1
            restore(1) = 1
            count(1..3) = 4 5 3
            restore(0) = 1
            count(1..3) = 4 5 2
            # another one in place of it
            read ROUND = 1
            image(0) = 1
            hours(1) = 0
            restore(0) = 1
            count(1..3) = 3 1 0
            restore(1) = 1
            count(1..3) = 4 5 3
            """);
        EDGES.edge("Promise 29", "BAD; STATE: no ROAD.", """
            image(!0..1) = BAD
            image(0..1) = STATE
            read x = FAULT0
            image(0..1) = STATE
            read EMPTY = 0
            image(!0..1) = BAD
            image(0..1) = 1
            """);
        EDGES.edge("Promise 30", "The ROAD is as an IMAGE kept it (no ACT can be undone then): 1.", """
            read FIVE = 5
            hours(2) = 0
            put(4, 3) = 1
            skip(3, 0) = 7
            image(0) = 1
            row(0, 0, 1) = 1
            as(0, 4) = KIND
            hours(3) = 8
            restore(0) = 1
            count(1..6) = 4 5 2 8 5 0
            undo() = STATE
            pulpit(0..4, 0) = 2 1 0 3 3
            pulpit(0..4, 1) = 4 7 2 0 7
            kind(0..4) = 1 2 3 4 5
            stretch(0..3, 0) = 0 1 2 0
            stretch(0..3, 1) = 7 8 120 243
            # what is no part of a ROAD stays
            count(0) = 1
            status() = 3
            # acts begin anew, and it can be restored again
            hours(2) = 0
            undo() = 1
            restore(0) = 1
            undo() = STATE
            count(3) = 2
            """);
        EDGES.edge("Promise 30", "BAD; STATE: none was kept.", """
            restore(!0..1) = BAD
            restore(0..1) = STATE
            read ROUND = 1
            restore(0..1) = STATE
            image(1) = 1
            restore(0) = STATE
            restore(!0..1) = BAD
            restore(1) = 1
            """);
    }
}
