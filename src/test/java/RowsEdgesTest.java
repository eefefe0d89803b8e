/** Edges of promises 1 to 5, and 36: a new object, rows, status. */
public final class RowsEdgesTest {
    private static final Edges EDGES = new Edges();

    public static void main(String[] args) {
        newObject();
        row();
        set();
        copy();
        drop();
        status();
        EDGES.end("RowsEdgesTest");
    }

    private static void newObject() {
        EDGES.edge("Promise 1", "No ROAD.", """
            count(0..9) = 0
            hours(1) = STATE
            first(0) = STATE
            left(0) = STATE
            round() = STATE
            piece(0) = STATE
            drawn(0, 1, 0) = STATE
            image(0..1) = STATE
            restore(0..1) = STATE
            undo() = STATE
            pulpit(0, 0) = BAD
            stretch(0, 0) = BAD
            fault() = 0
            status() = 0
            trace(0) = NONE
            """);
    }

    private static void row() {
        EDGES.edge("Promise 2", "A ROW of a LANE with n ITEMS, in place of what is there: n.", """
            row(0|7, 0..2, 0|1|40) = 0 1 40 0 1 40 0 1 40 0 1 40 0 1 40 0 1 40
            count(0) = 2
            set(0, 39, MIN) = MIN
            # shorter, and of another LANE
            row(0, 0, 3) = 3
            set(0, 3, 0) = PLACE
            set(0, 2, 128) = -128
            drop(0) = 3
            row(0, 1, 40) = 40
            set(0, 39, 32768) = -32768
            drop(0|7) = 40
            """);
        EDGES.edge("Promise 2", "BAD: ROW, LANE, n above 40; SIZE.", """
            row(!0..7, 0, 1) = BAD
            row(0, !0..2, 1) = BAD
            row(0, 0, 41|MAX) = BAD
            row(0, 0, -1|MIN) = SIZE
            # each BAD comes ahead of SIZE
            row(-1|8, 0, -1) = BAD
            row(0, -1|3, -1) = BAD
            count(0) = 0
            # what is there stays
            row(3, 1, 2) = 2
            row(3, 0, 41) = BAD
            row(3, 0, -1) = SIZE
            set(3, 1, 40000) = -25536
            drop(3) = 2
            """);
        EDGES.edge("Promise 2", "A ROW of a LANE with n ITEMS", """
            # all eight, none in another one's place
            row(0..7, 2, 1) = 1
            count(0) = 8
            row(7, 2, 5) = 5
            count(0) = 8
            read NINE = 1
            set(0..7, 0, 1) = 1
            set(3, 0, 6) = 6
            fits(0, 0..7, 0, 1, 1) = 1 1 1 32 1 1 1 1
            """);
    }

    private static void set() {
        EDGES.edge("Promise 3", "ITEM i becomes v, its lowest bits, as many as the LANE has: what it is then.", """
            row(0, 0, 40) = 40
            row(1, 1, 40) = 40
            row(2, 2, 40) = 40
            set(0, 0|39, MIN|-32769|-129|-128|127|128|255|256|MAX) = \
            0 -1 127 -128 127 -128 -1 0 -1 0 -1 127 -128 127 -128 -1 0 -1
            set(1, 0|39, MIN|-32769|-32768|32767|32768|65535|65536|MAX) = \
            0 32767 -32768 32767 -32768 -1 0 -1 0 32767 -32768 32767 -32768 -1 0 -1
            set(2, 0|39, MIN|-1|0|MAX) = MIN -1 0 MAX MIN -1 0 MAX
            """);
        EDGES.edge("Promise 3", "ITEM i becomes v", """
            # it alone, and what was cut is what is kept
            read NINE = 1
            row(0, 0, 3) = 3
            set(0, 1, 259) = 3
            fits(0, 0, 0..2, 1, 1) = 256 4 256
            row(1, 1, 3) = 3
            set(1, 2, 65540) = 4
            fits(0, 1, 0..2, 1, 1) = 256 256 8
            row(2, 2, 3) = 3
            set(2, 0, 65540) = 65540
            fits(0, 2, 0..2, 1, 1) = 0 256 256
            set(2, 0, 8) = 8
            fits(0, 2, 0, 1, 1) = 128
            """);
        EDGES.edge("Promise 3", "BAD: ROW; NULL; PLACE.", """
            set(!0..7, 0, 0) = BAD
            set(0, 0, 0) = NULL
            row(0, 0, 0) = 0
            set(0, 0, 0) = PLACE
            row(0, 0, 1) = 1
            set(0, 0, 0) = 0
            set(0, !0..0, 0) = PLACE
            row(0, 0, 40) = 40
            set(0, !0..39, 0) = PLACE
            # one after another: BAD, NULL, PLACE
            set(8, 40, 0) = BAD
            set(1, 40, 0) = NULL
            set(0, 40, 0) = PLACE
            """);
    }

    private static void copy() {
        EDGES.edge("Promise 4", "n ITEMS of a from i on come to b from j on, as they were ahead: n.", """
            read NINE = 1
            row(0, 0, 5) = 5
            set(0, 0, 1) = 1
            set(0, 1, 2) = 2
            set(0, 2, 3) = 3
            set(0, 3, 4) = 4
            set(0, 4, 5) = 5
            # onwards over itself
            copy(0, 0, 0, 1, 4) = 4
            fits(0, 0, 0..4, 1, 1) = 1 1 2 4 8
            # backwards over itself
            copy(0, 1, 0, 0, 4) = 4
            fits(0, 0, 0..4, 1, 1) = 1 2 4 8 8
            # all of it onto itself
            copy(0, 0, 0, 0, 5) = 5
            fits(0, 0, 0..4, 1, 1) = 1 2 4 8 8
            # to another one, up to both ends
            row(1, 0, 3) = 3
            copy(0, 3, 1, 1, 2) = 2
            fits(0, 1, 0..2, 1, 1) = 256 8 8
            copy(0, 0, 1, 0, 3) = 3
            fits(0, 1, 0..2, 1, 1) = 1 2 4
            fits(0, 0, 0..4, 1, 1) = 1 2 4 8 8
            """);
        EDGES.edge("Promise 4", "n ITEMS of a from i on come to b", """
            # none: at the end of each, and of empty ROWS
            row(0, 2, 4) = 4
            row(1, 2, 0) = 0
            copy(0, 0|4, 1, 0, 0) = 0
            copy(1, 0, 0, 0|4, 0) = 0
            copy(1, 0, 1, 0, 0) = 0
            copy(1, 1, 0, 0, 0) = PLACE
            copy(0, 0, 1, 1, 0) = PLACE
            copy(0, 5, 0, 0, 0) = PLACE
            copy(0, 0, 0, 5, 0) = PLACE
            # all 40, of each LANE
            row(2..3, 0, 40) = 40
            row(4..5, 1, 40) = 40
            row(6..7, 2, 40) = 40
            copy(2, 0, 3, 0, 40) = 40
            copy(4, 0, 5, 0, 40) = 40
            copy(6, 0, 7, 0, 40) = 40
            copy(6, 0, 7, 0, 41) = PLACE
            """);
        EDGES.edge("Promise 4", "PLACE (i, j, n below 0, or beyond an end)", """
            row(0, 0, 5) = 5
            row(1, 0, 3) = 3
            copy(0, -1|MIN, 1, 0, 1) = PLACE
            copy(0, 0, 1, -1|MIN, 1) = PLACE
            copy(0, 0, 1, 0, -1|MIN) = PLACE
            copy(0, 1, 1, 1, -1) = PLACE
            copy(0, -1, 1, 0, 0) = PLACE
            copy(0, 0, 1, -1, 0) = PLACE
            # beyond the end of a, of b, by one, and by all
            copy(0, 5|6|MAX, 1, 0, 1) = PLACE
            copy(0, 4, 1, 0, 2) = PLACE
            copy(0, 4, 1, 0, 1) = 1
            copy(0, 0, 1, 3|4|MAX, 1) = PLACE
            copy(0, 0, 1, 2, 2) = PLACE
            copy(0, 0, 1, 2, 1) = 1
            copy(0, 0, 1, 0, 4) = PLACE
            copy(0, 0, 1, 0, 3) = 3
            copy(1, 0, 0, 0, 4) = PLACE
            copy(0, 0, 0, 0, 6|MAX) = PLACE
            # sums that run over
            copy(0, 1|MAX, 0, 0, MAX) = PLACE
            copy(0, 0, 0, 1|MAX, MAX) = PLACE
            copy(0, MAX, 0, MAX, 2) = PLACE
            copy(0, MIN, 0, 0, MIN) = PLACE
            """);
        EDGES.edge("Promise 4", "BAD: ROWS; NULL; STORE; PLACE", """
            row(0, 0, 2) = 2
            row(1, 1, 2) = 2
            row(2, 2, 2) = 2
            copy(!0..7, 0, 0, 0, 1) = BAD
            copy(0, 0, !0..7, 0, 1) = BAD
            copy(7, 0, -1|8, 0, 1) = BAD
            copy(-1|8, 0, 7, 0, 1) = BAD
            copy(7, 0, 0, 0, 1) = NULL
            copy(0, 0, 7, 0, 1) = NULL
            copy(7, 0, 7, 0, 0) = NULL
            copy(6, 0, 7, 0, 0) = NULL
            copy(0, 9, 7, 9, 9) = NULL
            copy(0, 0, 1, 0, 1) = STORE
            copy(0, 0, 2, 0, 1) = STORE
            copy(1, 0, 0, 0, 1) = STORE
            copy(1, 0, 2, 0, 1) = STORE
            copy(2, 0, 0, 0, 1) = STORE
            copy(2, 0, 1, 0, 1) = STORE
            copy(0, 0, 1, 0, 0) = STORE
            copy(0, 9, 1, 9, 9) = STORE
            copy(0, 9, 0, 9, 9) = PLACE
            """);
    }

    private static void drop() {
        EDGES.edge("Promise 5", "A ROW is missing from now on: how many ITEMS it had.", """
            row(0, 0, 0) = 0
            row(1, 1, 40) = 40
            row(7, 2, 1) = 1
            drop(0|1) = 0 40
            count(0) = 1
            set(0|1, 0, 0) = NULL
            copy(0, 0, 7, 0, 0) = NULL
            copy(7, 0, 1, 0, 0) = NULL
            read ROUND = 1
            fits(0, 1, 0, 1, 0) = NULL
            drop(7) = 1
            count(0) = 0
            """);
        EDGES.edge("Promise 5", "BAD; NULL.", """
            drop(!0..7) = BAD
            drop(0..7) = NULL
            row(3, 0, 2) = 2
            drop(3) = 2
            drop(3) = NULL
            row(3, 0, -1) = SIZE
            drop(3) = NULL
            """);
    }

    private static void status() {
        EDGES.edge("Promise 36", "Of the latest call with a ROW, or as(), [..]: the number of its FINDING", """
            status() = 0
            row(0, 0, -1) = SIZE
            status() = 4
            set(0, 0, 0) = NULL
            status() = 1
            row(0, 0, 1) = 1
            status() = 0
            set(0, 1, 0) = PLACE
            status() = 2
            set(0, 0, 1) = 1
            status() = 0
            row(1, 1, 1) = 1
            copy(0, 0, 1, 0, 1) = STORE
            status() = 5
            copy(0, 0, 0, 0, 1) = 1
            status() = 0
            drop(5) = NULL
            status() = 1
            drop(1) = 1
            status() = 0
            read ROUND = 1
            as(0, 4) = KIND
            status() = 3
            as(0, 1) = 0
            status() = 0
            fits(0, 1, 0, 1, 0) = NULL
            status() = 1
            fits(0, 0, 0, 1, 0) = 50
            status() = 0
            fits(0, 0, 0, 2, 0) = PLACE
            status() = 2
            """);
        EDGES.edge("Promise 36", "that was not BAD, STATE, FULL", """
            read ROUND = 1
            row(0, 0, 1) = 1
            as(0, 4) = KIND
            row(8, 0, 1) = BAD
            set(8, 0, 1) = BAD
            copy(8, 0, 0, 0, 1) = BAD
            copy(0, 0, 8, 0, 1) = BAD
            drop(8) = BAD
            fits(1, 0, 0, 1, 0) = BAD
            fits(0, 8, 0, 1, 0) = BAD
            fits(0, 0, 0, 13, 0) = BAD
            fits(0, 0, 0, 1, 4) = BAD
            as(1, 0) = BAD
            as(0, 6) = BAD
            status() = 3
            """);
        EDGES.edge("Promise 36", "Of the latest call with a ROW, or as()", """
            # no other call counts, answered or refused
            read ROUND = 1
            as(0, 4) = KIND
            feed x = 1
            feed(256) = BAD
            road() = FAULT0
            fault() = 1
            hours(1) = 0
            hours(0) = BAD
            put(0, 0) = 1
            put(0, 0) = STATE
            skip(0, 1) = 3
            forget(0) = 3
            forget(0) = STATE
            undo() = 3
            pulpit(0, 0) = 0
            stretch(0, 0) = 0
            ahead(0, 1, 0) = 1
            heard(0, 0) = 7
            whole(0) = 1
            first(0) = 0
            left(0) = 8
            meet(0, 0) = BAD
            round() = 3
            best(0, 0, 1, 1) = 4
            piece(0) = NONE
            walk(0, 1, 0) = 3
            axles(0, 0, 0, 0) = 1
            drawn(0, 1, 0) = 3
            image(0) = 1
            restore(0) = 1
            restore(1) = STATE
            kind(0) = 1
            ask(0, 0) = 1
            trace(0) = 11
            count(0) = 0
            read ROUND = 1
            status() = 3
            status() = 3
            """);
        EDGES.edge("Promise 36", "0: it had none, or there was none", """
            status() = 0
            as(0, 0) = BAD
            status() = 0
            row(8, 0, 0) = BAD
            status() = 0
            drop(0) = NULL
            row(0, 0, 0) = 0
            status() = 0
            """);
    }
}
