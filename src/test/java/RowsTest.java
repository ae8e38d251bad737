/** Promises 2 to 5, and 39 where it is about rows. */
public final class RowsTest {
    private static final Due due = new Due("RowsTest");
    private static final int NULL = -1000011, PLACE = -1000012, SIZE = -1000014, STORE = -1000015;

    public static void main(String[] args) {
        making();
        setting();
        copying();
        dropping();
        statusOfRows();
        due.end();
    }

    private static void making() {
        HawkAsks x = new HawkAsks();
        due.is("row(0,0,0)", x.row(0, 0, 0), 0);
        due.is("row(7,2,40)", x.row(7, 2, 40), 40);
        due.is("count(0)", x.count(0), 2);
        due.is("row(8,0,1)", x.row(8, 0, 1), HawkAsks.BAD);
        due.is("row(-1,0,1)", x.row(-1, 0, 1), HawkAsks.BAD);
        due.is("row(0,-1,1)", x.row(0, -1, 1), HawkAsks.BAD);
        due.is("row(0,3,1)", x.row(0, 3, 1), HawkAsks.BAD);
        due.is("row(0,0,41)", x.row(0, 0, 41), HawkAsks.BAD);
        due.is("row(0,0,max)", x.row(0, 0, Integer.MAX_VALUE), HawkAsks.BAD);
        due.is("row(0,3,-1)", x.row(0, 3, -1), HawkAsks.BAD);
        due.is("row(0,0,-1)", x.row(0, 0, -1), SIZE);
        due.is("row(0,0,min)", x.row(0, 0, Integer.MIN_VALUE), SIZE);
        due.is("count(0) behind refusals", x.count(0), 2);
        due.is("set(7,39,5)", x.set(7, 39, 5), 5);
        due.is("a finding leaves the row", x.row(7, 0, -2), SIZE);
        due.is("drop(7)", x.drop(7), 40);
        x.row(3, 2, 2);
        x.set(3, 0, 77);
        x.set(3, 1, 77);
        Due.tell(x, "c2,1;q1,1,0;k1;");
        x.castle();
        due.is("a row that is no bell of the wrist", x.who(0, 0, 0, 3, 0, 2), 0);
        due.is("row(3,0,2) again", x.row(3, 0, 2), 2);
        due.is("items are 0 at first, as the bell of the wrist", x.who(0, 0, 0, 3, 0, 2), 62);
    }

    private static void setting() {
        HawkAsks x = new HawkAsks();
        due.is("set on a missing row", x.set(0, 0, 1), NULL);
        due.is("missing goes ahead of place", x.set(0, -1, 1), NULL);
        due.is("set(8,0,0)", x.set(8, 0, 0), HawkAsks.BAD);
        due.is("set(-1,0,0)", x.set(-1, 0, 0), HawkAsks.BAD);
        x.row(0, 0, 3);
        x.row(1, 1, 3);
        x.row(2, 2, 3);
        due.is("byte 127", x.set(0, 0, 127), 127);
        due.is("byte 128", x.set(0, 0, 128), -128);
        due.is("byte 256", x.set(0, 0, 256), 0);
        due.is("byte -129", x.set(0, 2, -129), 127);
        due.is("short 32767", x.set(1, 0, 32767), 32767);
        due.is("short 32768", x.set(1, 0, 32768), -32768);
        due.is("short 65541", x.set(1, 2, 65541), 5);
        due.is("int max", x.set(2, 0, Integer.MAX_VALUE), Integer.MAX_VALUE);
        due.is("int min", x.set(2, 2, Integer.MIN_VALUE), Integer.MIN_VALUE);
        due.is("set(0,3,0)", x.set(0, 3, 0), PLACE);
        due.is("set(0,-1,0)", x.set(0, -1, 0), PLACE);
        due.is("set(0,max,0)", x.set(0, Integer.MAX_VALUE, 0), PLACE);
        x.row(3, 0, 0);
        due.is("no place in an empty row", x.set(3, 0, 0), PLACE);
    }

    private static void copying() {
        HawkAsks x = Due.told("c4,9;q3,9,0;t9;");
        x.fly(0);
        Due.bell(x, 0, 1, 2, 3, 0);
        x.row(1, 2, 6);
        due.is("copy(0,0,1,2,4)", x.copy(0, 0, 1, 2, 4), 4);
        due.is("the kite's bell came over", x.who(0, 0, 0, 1, 2, 2) & 16, 16);
        due.is("what is ahead of it stays", x.who(0, 0, 0, 1, 1, 1) & 16, 0);
        Due.bell(x, 2, 1, 2, 3, 0, 5);
        due.is("copy onto itself, up", x.copy(2, 0, 2, 1, 4), 4);
        due.is("as they were ahead, up", x.who(0, 0, 0, 2, 1, 2) & 16, 16);
        due.is("not the first one again", x.who(0, 0, 0, 2, 2, 1) & 16, 0);
        due.is("copy onto itself, down", x.copy(2, 1, 2, 0, 4), 4);
        due.is("as they were ahead, down", x.who(0, 0, 0, 2, 0, 2) & 16, 16);
        copyRefusals(x);
    }

    private static void copyRefusals(HawkAsks x) {
        x.row(3, 1, 6);
        due.is("copy(8,..)", x.copy(8, 0, 0, 0, 0), HawkAsks.BAD);
        due.is("copy(..,-1)", x.copy(0, 0, -1, 0, 0), HawkAsks.BAD);
        due.is("missing a", x.copy(6, -1, 3, 0, 1), NULL);
        due.is("missing b", x.copy(3, 0, 6, 0, 1), NULL);
        due.is("two lanes go ahead of places", x.copy(0, -1, 3, 0, 1), STORE);
        due.is("two lanes, no items", x.copy(0, 0, 3, 0, 0), STORE);
        due.is("i below 0", x.copy(0, -1, 1, 0, 1), PLACE);
        due.is("j below 0", x.copy(0, 0, 1, -1, 1), PLACE);
        due.is("n below 0", x.copy(0, 0, 1, 0, -1), PLACE);
        due.is("beyond a", x.copy(0, 1, 1, 0, 4), PLACE);
        due.is("beyond b", x.copy(0, 0, 1, 3, 4), PLACE);
        due.is("far beyond", x.copy(0, Integer.MAX_VALUE, 1, 0, Integer.MAX_VALUE), PLACE);
        due.is("far below", x.copy(0, 0, 1, 0, Integer.MIN_VALUE), PLACE);
        due.is("none at the ends", x.copy(0, 4, 1, 6, 0), 0);
        due.is("none beyond an end", x.copy(0, 5, 1, 6, 0), PLACE);
    }

    private static void dropping() {
        HawkAsks x = new HawkAsks();
        due.is("drop of a missing row", x.drop(0), NULL);
        due.is("drop(8)", x.drop(8), HawkAsks.BAD);
        due.is("drop(-1)", x.drop(-1), HawkAsks.BAD);
        x.row(0, 1, 17);
        x.row(1, 1, 0);
        due.is("drop(0)", x.drop(0), 17);
        due.is("drop(0) again", x.drop(0), NULL);
        due.is("drop of an empty row", x.drop(1), 0);
        due.is("count(0)", x.count(0), 0);
    }

    private static void statusOfRows() {
        HawkAsks x = new HawkAsks();
        due.is("status() of a new object", x.status(), 0);
        x.row(0, 0, -1);
        due.is("status() of SIZE", x.status(), 4);
        x.row(9, 0, 1);
        due.is("BAD leaves status()", x.status(), 4);
        x.row(0, 0, 1);
        due.is("status() of none", x.status(), 0);
        x.set(0, 1, 1);
        due.is("status() of PLACE", x.status(), 2);
        x.feed(300);
        x.count(0);
        due.is("calls without rows leave status()", x.status(), 2);
        x.set(0, 0, 1);
        due.is("status() of a good set", x.status(), 0);
        x.drop(5);
        due.is("status() of NULL", x.status(), 1);
        x.drop(0);
        due.is("status() of a good drop", x.status(), 0);
        x.row(0, 0, 1);
        x.row(1, 1, 1);
        x.copy(0, 0, 1, 0, 1);
        due.is("status() of STORE", x.status(), 5);
        x.copy(0, 0, 0, 0, 1);
        due.is("status() of a good copy", x.status(), 0);
    }
}
