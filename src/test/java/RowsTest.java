/** Promises 1 to 5 and 36: a new object, the rows, and what was found of them. */
public final class RowsTest {
    private static final Check CHECK = new Check();

    public static void main(String[] args) {
        newObject();
        rowsBegin();
        itemsAreCut();
        itemsAreCopied();
        rowsAreDropped();
        statusIsOfTheLatestThatCounts();
        CHECK.end("RowsTest");
    }

    private static void newObject() {
        PulpitRoads x = new PulpitRoads();
        for (int what = 0; what < 10; what++) {
            CHECK.due("new: count(" + what + ")", x.count(what), 0);
        }
        CHECK.due("new: status", x.status(), 0);
        CHECK.due("new: fault", x.fault(), 0);
        CHECK.due("new: trace(0)", x.trace(0), Check.NONE);
        CHECK.due("new: undo", x.undo(), Check.STATE);
        CHECK.due("new: hours(1)", x.hours(1), Check.STATE);
        CHECK.due("new: drop(7)", x.drop(7), Check.NULL);
    }

    private static void rowsBegin() {
        PulpitRoads x = new PulpitRoads();
        CHECK.due("row(0, 0, 0)", x.row(0, 0, 0), 0);
        CHECK.due("row(7, 2, 40)", x.row(7, 2, 40), 40);
        CHECK.due("two rows", x.count(0), 2);
        CHECK.due("row(7, 2, 41)", x.row(7, 2, 41), Check.BAD);
        CHECK.due("row(8, 0, 1)", x.row(8, 0, 1), Check.BAD);
        CHECK.due("row(-1, 0, 1)", x.row(-1, 0, 1), Check.BAD);
        CHECK.due("row(0, 3, 1)", x.row(0, 3, 1), Check.BAD);
        CHECK.due("row(0, -1, 1)", x.row(0, -1, 1), Check.BAD);
        CHECK.due("BAD ahead of SIZE", x.row(0, 3, -1), Check.BAD);
        CHECK.due("SIZE", x.row(7, 0, -1), Check.SIZE);
        CHECK.due("SIZE, least", x.row(1, 0, Integer.MIN_VALUE), Check.SIZE);
        CHECK.due("what was found changes no row", x.set(7, 39, 70000), 70000);
        CHECK.due("nor makes one", x.count(0), 2);
        x.row(7, 2, 40);
        CHECK.due("row in place: set", x.set(7, 0, 1), 1);
        x.copy(7, 39, 7, 1, 1);
        Check.read(x, "p4,0;r0;r0;r0;b0,0;");
        CHECK.due("row in place is 0 again", x.fits(0, 7, 39, 1, 1), 4);
    }

    private static void itemsAreCut() {
        PulpitRoads x = new PulpitRoads();
        x.row(0, 0, 3);
        x.row(1, 1, 3);
        x.row(2, 2, 3);
        CHECK.due("byte 127", x.set(0, 0, 127), 127);
        CHECK.due("byte 128", x.set(0, 1, 128), -128);
        CHECK.due("byte -129", x.set(0, 2, -129), 127);
        CHECK.due("short 32767", x.set(1, 0, 32767), 32767);
        CHECK.due("short 32768", x.set(1, 1, 32768), -32768);
        CHECK.due("short 65536", x.set(1, 2, 65536), 0);
        CHECK.due("int", x.set(2, 2, Integer.MIN_VALUE), Integer.MIN_VALUE);
        CHECK.due("set beyond", x.set(2, 3, 0), Check.PLACE);
        CHECK.due("set in a missing row", x.set(3, 0, 0), Check.NULL);
        CHECK.due("NULL ahead of PLACE", x.set(3, -1, 0), Check.NULL);
        CHECK.due("set in no row", x.set(8, 0, 0), Check.BAD);
        x.row(4, 0, 0);
        CHECK.due("set in an empty row", x.set(4, 0, 0), Check.PLACE);
        for (int far : Check.FAR) {
            CHECK.due("set row " + far, x.set(far, 0, 0), Check.BAD);
            CHECK.due("set place " + far, x.set(0, far, 0), Check.PLACE);
        }
    }

    private static void itemsAreCopied() {
        PulpitRoads x = Check.on("p4,0;r0;r0;r0;r0;r0;b0,0;");
        Check.fill(x, 0, 0, 1, 2, 3, 4, 5);
        CHECK.due("onto itself", x.copy(0, 0, 0, 1, 4), 4);
        CHECK.due("as they were ahead", x.fits(0, 0, 1, 4, 1), 1);
        CHECK.due("item 0 stays", x.fits(0, 0, 0, 1, 1), 1);
        Check.fill(x, 1, 0, 0, 0, 0);
        CHECK.due("to another", x.copy(0, 3, 1, 1, 2), 2);
        CHECK.due("3 came to 1", x.fits(0, 1, 1, 2, 1), 4);
        CHECK.due("none at the end", x.copy(0, 5, 1, 3, 0), 0);
        CHECK.due("beyond a", x.copy(0, 4, 1, 0, 2), Check.PLACE);
        CHECK.due("beyond b", x.copy(0, 0, 1, 2, 2), Check.PLACE);
        CHECK.due("none beyond", x.copy(0, 6, 1, 0, 0), Check.PLACE);
        CHECK.due("no row a", x.copy(8, 0, 0, 0, 0), Check.BAD);
        CHECK.due("no row b", x.copy(0, 0, 8, 0, 0), Check.BAD);
        CHECK.due("BAD ahead of NULL", x.copy(5, 0, 8, 0, 0), Check.BAD);
        CHECK.due("a is missing", x.copy(5, 0, 0, 0, 0), Check.NULL);
        CHECK.due("b is missing", x.copy(0, 0, 5, 0, 0), Check.NULL);
        x.row(2, 1, 3);
        CHECK.due("two lanes", x.copy(0, 0, 2, 0, 1), Check.STORE);
        CHECK.due("two lanes, none", x.copy(2, 0, 0, 0, 0), Check.STORE);
        CHECK.due("STORE ahead of PLACE", x.copy(0, -1, 2, 9, -1), Check.STORE);
        CHECK.due("NULL ahead of PLACE", x.copy(0, -1, 5, 9, -1), Check.NULL);
        for (int far : Check.FAR) {
            CHECK.due("copy i " + far, x.copy(0, far, 1, 0, 1), Check.PLACE);
            CHECK.due("copy j " + far, x.copy(0, 0, 1, far, 1), Check.PLACE);
            CHECK.due("copy n " + far, x.copy(0, 1, 1, 1, far), Check.PLACE);
        }
    }

    private static void rowsAreDropped() {
        PulpitRoads x = new PulpitRoads();
        x.row(3, 2, 5);
        CHECK.due("drop(3)", x.drop(3), 5);
        CHECK.due("drop(3) again", x.drop(3), Check.NULL);
        CHECK.due("no rows", x.count(0), 0);
        CHECK.due("drop(8)", x.drop(8), Check.BAD);
        CHECK.due("drop(-1)", x.drop(-1), Check.BAD);
        CHECK.due("it can come again", x.row(3, 0, 2), 2);
        CHECK.due("with another lane", x.set(3, 1, 255), -1);
    }

    private static void statusIsOfTheLatestThatCounts() {
        PulpitRoads x = Check.on("p4,0;r0;r0;r0;d0,0;");
        x.row(0, 0, -5);
        CHECK.due("SIZE", x.status(), 4);
        x.row(9, 0, 0);
        x.set(9, 0, 0);
        x.copy(9, 0, 0, 0, 0);
        x.drop(9);
        x.as(9, 0);
        x.fits(0, 0, 0, 13, 0);
        x.count(0);
        x.hours(1);
        CHECK.due("BAD ones and others do not count", x.status(), 4);
        x.set(0, 0, 0);
        CHECK.due("NULL", x.status(), 1);
        x.row(0, 0, 1);
        CHECK.due("row: none", x.status(), 0);
        x.set(0, 1, 0);
        CHECK.due("PLACE", x.status(), 2);
        x.set(0, 0, 0);
        CHECK.due("set: none", x.status(), 0);
        x.as(0, 1);
        CHECK.due("KIND", x.status(), 3);
        x.as(0, 4);
        CHECK.due("as: none", x.status(), 0);
        x.row(1, 1, 1);
        x.copy(0, 0, 1, 0, 1);
        CHECK.due("STORE", x.status(), 5);
        x.copy(0, 0, 0, 0, 1);
        CHECK.due("copy: none", x.status(), 0);
        x.fits(0, 0, 0, 2, 0);
        CHECK.due("fits: PLACE", x.status(), 2);
        x.fits(0, 0, 0, 1, 0);
        CHECK.due("fits: none", x.status(), 0);
        x.fits(0, 2, 0, 1, 0);
        CHECK.due("fits: NULL", x.status(), 1);
        x.drop(0);
        CHECK.due("drop: none", x.status(), 0);
    }
}
