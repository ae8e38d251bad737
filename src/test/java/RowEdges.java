/** Sentences about rows: promises 2 to 5, and 39 where it is about rows. */
final class RowEdges {
    /** A flown kite's bell is 1 2 3 4 5 6 7 8 0, and begins unlike that of all other kinds: by it items are read. */
    private static final String KITE = "text c9,30;q0,9,0;t1; = 1 | fly(0) = {0}\n";

    private RowEdges() {
    }

    static void tell(Edges e) {
        row(e);
        items(e);
        set(e);
        copy(e);
        copyRefused(e);
        drop(e);
        status(e);
    }

    private static void row(Edges e) {
        e.edge(2, "A ROW of a LANE with n ITEMS, in place of what is there: n.", """
            row(3, 0, 5) = 5 | row(3, 2, 2) = 2 | count(0) = 1
            set(3, 1, 70000) = 70000 | set(3, 2, 0) = PLACE | drop(3) = 2
            """);
        e.edge(2, "BAD: ROW", """
            row(0, 0, 1) = 1 | row(7, 0, 1) = 1
            row(-1, 0, 1) = BAD | row(8, 0, 1) = BAD | row(MIN, 0, 1) = BAD | row(MAX, 0, 1) = BAD
            count(0) = 2
            """);
        e.edge(2, "LANE, n above 40", """
            row(0, 0, 1) = 1 | row(1, 1, 1) = 1 | row(2, 2, 1) = 1
            row(3, -1, 1) = BAD | row(3, 3, 1) = BAD | row(3, MIN, 1) = BAD | row(3, MAX, 1) = BAD
            row(1, 3, 1) = BAD | set(1, 0, 300) = 300 | count(0) = 3
            """);
        e.edge(2, "n above 40", """
            row(0, 0, 40) = 40 | row(0, 0, 41) = BAD | row(0, 0, MAX) = BAD | row(1, 2, 41) = BAD
            drop(0) = 40 | drop(1) = NULL
            """);
        e.edge(2, "; SIZE.", """
            row(0, 0, -1) = SIZE | row(0, 0, MIN) = SIZE | count(0) = 0
            row(0, 0, 3) = 3 | row(0, 1, -1) = SIZE | set(0, 2, 128) = -128 | drop(0) = 3
            """);
        e.edge(2, "4 SIZE (fewer than none)", """
            row(0, 0, 0) = 0 | status() = 0 | row(0, 0, -1) = SIZE | status() = 4 | drop(0) = 0
            """);
        e.edge(2, "Refusals are answers, the first of these that fits, but as told: BAD", """
            row(8, 0, -1) = BAD | row(0, 3, -1) = BAD | row(-1, -1, -1) = BAD | status() = 0
            """);
    }

    private static void items(Edges e) {
        e.edge(2, "0 to 40 ITEMS", """
            row(0, 0, 0) = 0 | count(0) = 1 | set(0, 0, 1) = PLACE | drop(0) = 0
            row(1, 0, 40) = 40 | set(1, 39, 1) = 1 | set(1, 40, 1) = PLACE | drop(1) = 40
            """);
        e.edge(2, "0 at first", KITE + """
            call(0) = {}
            row(0, 0, 3) = 3 | who(0, 0, 0, 0, 0, 3) = {1 2 3 4 5}
            bell 1: 1 1 | who(0, 0, 0, 1, 0, 1) = {} | who(0, 0, 0, 1, 1, 1) = {}
            row(1, 2, 2) = 2 | who(0, 0, 0, 1, 0, 2) = {1 2 3 4 5}
            bell 2: 1 1 | row(2, 2, 0) = 0 | row(2, 2, 2) = 2 | who(0, 0, 0, 2, 0, 2) = {1 2 3 4 5}
            bell 3: 1 1 | drop(3) = 2 | row(3, 2, 2) = 2 | who(0, 0, 0, 3, 0, 2) = {1 2 3 4 5}
            """);
        e.edge(5, "ROWS 0 .. 7 are missing (at first)", """
            count(0) = 0
            drop(0) = NULL | drop(1) = NULL | drop(2) = NULL | drop(3) = NULL
            drop(4) = NULL | drop(5) = NULL | drop(6) = NULL | drop(7) = NULL
            """);
    }

    private static void set(Edges e) {
        e.edge(3, "its lowest bits, as many as the LANE has", """
            row(0, 0, 1) = 1
            set(0, 0, 127) = 127 | set(0, 0, 128) = -128 | set(0, 0, 255) = -1 | set(0, 0, 256) = 0
            set(0, 0, -128) = -128 | set(0, 0, -129) = 127 | set(0, 0, MAX) = -1 | set(0, 0, MIN) = 0
            row(1, 1, 1) = 1
            set(1, 0, 32767) = 32767 | set(1, 0, 32768) = -32768 | set(1, 0, 65535) = -1 | set(1, 0, 65536) = 0
            set(1, 0, -32768) = -32768 | set(1, 0, -32769) = 32767 | set(1, 0, MAX) = -1 | set(1, 0, MIN) = 0
            row(2, 2, 1) = 1
            set(2, 0, MAX) = MAX | set(2, 0, MIN) = MIN | set(2, 0, 65536) = 65536 | set(2, 0, -1) = -1
            """);
        e.edge(3, "(0 bytes, 1 shorts, 2 ints)", """
            row(0, 0, 1) = 1 | set(0, 0, 65921) = -127
            row(0, 1, 1) = 1 | set(0, 0, 65921) = 385
            row(0, 2, 1) = 1 | set(0, 0, 65921) = 65921
            """);
        e.edge(3, "ITEM i becomes v", KITE + """
            row(0, 0, 3) = 3 | set(0, 0, 257) = 1 | set(0, 1, 2) = 2 | set(0, 2, 3) = 3
            who(0, 0, 0, 0, 0, 3) = {4}
            set(0, 1, 7) = 7 | who(0, 0, 0, 0, 0, 1) = {4} | who(0, 0, 0, 0, 0, 2) = {}
            """);
        e.edge(3, "BAD: ROW", """
            row(0, 0, 1) = 1 | row(7, 0, 1) = 1 | set(0, 0, 5) = 5 | set(7, 0, 5) = 5
            set(-1, 0, 5) = BAD | set(8, 0, 5) = BAD | set(MIN, 0, 5) = BAD | set(MAX, 0, 5) = BAD
            set(8, -1, 5) = BAD
            """);
        e.edge(3, "NULL", """
            set(0, 0, 5) = NULL | row(0, 0, 1) = 1 | set(0, 0, 5) = 5 | drop(0) = 1 | set(0, 0, 5) = NULL
            count(0) = 0
            """);
        e.edge(3, "PLACE", KITE + """
            bell 0: 1 2
            set(0, -1, 5) = PLACE | set(0, 2, 5) = PLACE | set(0, MIN, 5) = PLACE | set(0, MAX, 5) = PLACE
            set(0, 39, 5) = PLACE | set(0, 40, 5) = PLACE
            who(0, 0, 0, 0, 0, 2) = {4}
            row(0, 0, 0) = 0 | set(0, 0, 5) = PLACE
            """);
        e.edge(3, "1 NULL (a ROW that is missing), 2 PLACE (no such place of a ROW)", """
            set(0, -1, 5) = NULL | status() = 1
            row(0, 0, 1) = 1 | set(0, -1, 5) = PLACE | status() = 2
            """);
    }

    private static void copy(Edges e) {
        e.edge(4, "n ITEMS of a from i on come to b from j on", KITE + """
            bell 0: 7 1 2 3 7 | row(1, 2, 5) = 5
            copy(0, 1, 1, 2, 3) = 3
            who(0, 0, 0, 1, 2, 3) = {4} | who(0, 0, 0, 0, 1, 3) = {4}
            who(0, 0, 0, 1, 0, 1) = {1 2 3 5} | who(0, 0, 0, 1, 1, 1) = {1 2 3 5}
            copy(0, 4, 1, 1, 0) = 0 | who(0, 0, 0, 1, 1, 1) = {1 2 3 5}
            copy(0, 0, 1, 0, 5) = 5 | who(0, 0, 0, 1, 1, 3) = {4} | who(0, 0, 0, 1, 0, 1) = {}
            """);
        e.edge(4, "as they were ahead", KITE + """
            bell 0: 1 2 3 9 | copy(0, 0, 0, 1, 3) = 3
            who(0, 0, 0, 0, 1, 3) = {4} | who(0, 0, 0, 0, 0, 1) = {4} | who(0, 0, 0, 0, 0, 2) = {}
            bell 1: 9 1 2 3 | copy(1, 1, 1, 0, 3) = 3
            who(0, 0, 0, 1, 0, 3) = {4}
            copy(1, 0, 1, 0, 4) = 4 | who(0, 0, 0, 1, 0, 3) = {4}
            """);
    }

    private static void copyRefused(Edges e) {
        e.edge(4, "BAD: ROWS", """
            row(0, 0, 1) = 1 | row(7, 0, 1) = 1 | copy(0, 0, 7, 0, 1) = 1 | copy(7, 0, 0, 0, 1) = 1
            copy(-1, 0, 0, 0, 1) = BAD | copy(8, 0, 0, 0, 1) = BAD | copy(MIN, 0, 0, 0, 1) = BAD
            copy(0, 0, -1, 0, 1) = BAD | copy(0, 0, 8, 0, 1) = BAD | copy(0, 0, MAX, 0, 1) = BAD
            copy(8, 0, 5, 0, 1) = BAD | copy(5, 0, 8, 0, 1) = BAD
            """);
        e.edge(4, "NULL", """
            row(0, 0, 1) = 1
            copy(0, 0, 1, 0, 0) = NULL | copy(1, 0, 0, 0, 0) = NULL | copy(1, 0, 1, 0, 0) = NULL
            copy(1, 0, 2, 0, 0) = NULL | status() = 1
            """);
        e.edge(4, "STORE", """
            row(0, 0, 2) = 2 | row(1, 1, 2) = 2 | row(2, 2, 2) = 2
            copy(0, 0, 1, 0, 1) = STORE | copy(1, 0, 0, 0, 1) = STORE | copy(0, 0, 2, 0, 1) = STORE
            copy(2, 0, 0, 0, 1) = STORE | copy(1, 0, 2, 0, 1) = STORE | copy(2, 0, 1, 0, 1) = STORE
            copy(0, 0, 1, 0, 0) = STORE | status() = 5
            row(1, 0, 2) = 2 | copy(0, 0, 1, 0, 1) = 1
            """);
        e.edge(4, "5 STORE (ROWS of two LANES)", """
            row(0, 0, 1) = 1 | row(1, 2, 1) = 1 | copy(0, 0, 1, 0, 1) = STORE | status() = 5
            row(1, 0, 2) = 2 | copy(0, 0, 1, 0, 1) = 1 | status() = 0
            """);
        e.edge(4, "PLACE (i, j, n below 0", """
            row(0, 0, 3) = 3 | row(1, 0, 3) = 3 | copy(0, 0, 1, 0, 0) = 0
            copy(0, -1, 1, 0, 1) = PLACE | copy(0, 0, 1, -1, 1) = PLACE | copy(0, 0, 1, 0, -1) = PLACE
            copy(0, -1, 1, 0, 0) = PLACE | copy(0, 0, 1, -1, 0) = PLACE | copy(0, 3, 1, 3, -1) = PLACE
            copy(0, MIN, 1, 0, 1) = PLACE | copy(0, 0, 1, MIN, 1) = PLACE | copy(0, 0, 1, 0, MIN) = PLACE
            """);
        e.edge(4, "or beyond an end", KITE + """
            bell 0: 7 7 | bell 1: 1 2 3
            copy(0, 1, 1, 0, 2) = PLACE | copy(0, 0, 1, 2, 2) = PLACE | copy(0, 0, 1, 0, 3) = PLACE
            copy(1, 0, 0, 0, 3) = PLACE | copy(0, 3, 1, 0, 0) = PLACE | copy(0, 0, 1, 4, 0) = PLACE
            copy(0, 1, 1, 0, MAX) = PLACE | copy(0, MAX, 1, 0, 1) = PLACE | copy(0, 0, 1, MAX, 1) = PLACE
            copy(0, MAX, 1, MAX, MAX) = PLACE
            who(0, 0, 0, 1, 0, 3) = {4}
            copy(0, 2, 1, 3, 0) = 0 | copy(0, 0, 1, 1, 2) = 2 | who(0, 0, 0, 1, 0, 2) = {}
            """);
        e.edge(4, "then FINDINGS, of several the first in time", """
            row(0, 0, 1) = 1 | row(1, 1, 1) = 1 | row(2, 0, 1) = 1
            copy(0, -1, 3, 0, 1) = NULL | copy(3, 9, 0, 9, 9) = NULL
            copy(0, -1, 1, 0, 1) = STORE | copy(0, 0, 1, 9, 9) = STORE
            copy(0, -1, 2, 0, 1) = PLACE
            """);
    }

    private static void drop(Edges e) {
        e.edge(5, "A ROW is missing from now on: how many ITEMS it had.", """
            row(0, 0, 40) = 40 | row(7, 2, 0) = 0 | count(0) = 2
            drop(0) = 40 | count(0) = 1 | set(0, 0, 1) = NULL | copy(0, 0, 7, 0, 0) = NULL
            drop(7) = 0 | count(0) = 0
            """);
        e.edge(5, "BAD; NULL.", """
            drop(-1) = BAD | drop(8) = BAD | drop(MIN) = BAD | drop(MAX) = BAD
            drop(0) = NULL | row(0, 0, 1) = 1 | drop(0) = 1 | drop(0) = NULL
            """);
    }

    private static void status(Edges e) {
        e.edge(39, "Of the latest call with a ROW, or as(), that was not BAD, STATE, FULL", """
            text c2,1;q1,9,0;k1;k1; = 2 | fly(0) = {0} | hours(1) = 0
            row(0, 0, -1) = SIZE | status() = 4
            row(8, 0, 0) = BAD | set(8, 0, 0) = BAD | copy(8, 0, 0, 0, 0) = BAD | drop(8) = BAD | as(9, 0) = BAD
            who(0, 0, 0, 0, 0, 0) = BAD | what(0, 0, 0, 0, 0, 0) = BAD | who(0, 0, 0, 0, 0, 1) = STATE
            fly(0) = STATE | feed(256) = BAD | undo() = 1 | kind(1) = 3 | ask(1, 0) = -998 | count(0) = 0
            status() = 4 | status() = 4
            """);
        e.edge(39, "the number of its FINDING", """
            text c2,9;q1,9,0;k1; = 1
            set(0, 0, 0) = NULL | status() = 1 | row(0, 0, 1) = 1 | set(0, 1, 0) = PLACE | status() = 2
            as(0, 2) = KIND | status() = 3 | row(1, 0, -1) = SIZE | status() = 4
            row(1, 1, 1) = 1 | copy(0, 0, 1, 0, 1) = STORE | status() = 5
            copy(0, 0, 2, 0, 1) = NULL | status() = 1 | copy(0, 0, 0, 1, 1) = PLACE | status() = 2
            drop(2) = NULL | status() = 1
            who(0, 0, 0, 0, 1, 1) = PLACE | status() = 2 | who(0, 0, 0, 2, 0, 1) = NULL | status() = 1
            what(0, 0, 0, 0, 1, 1) = PLACE | status() = 2 | what(0, 0, 0, 2, 0, 1) = NULL | status() = 1
            """);
        e.edge(39, "0: it had none, or there was none", """
            status() = 0 | text c2,9;q1,9,0;k1; = 1 | status() = 0
            drop(0) = NULL | status() = 1 | row(0, 0, 1) = 1 | status() = 0
            drop(1) = NULL | status() = 1 | set(0, 0, 0) = 0 | status() = 0
            drop(1) = NULL | status() = 1 | copy(0, 0, 0, 0, 1) = 1 | status() = 0
            drop(1) = NULL | status() = 1 | who(0, 0, 0, 0, 0, 1) = {1 2 3 4 5} | status() = 0
            drop(1) = NULL | status() = 1 | what(0, 0, 0, 0, 0, 1) = {0 1 2} | status() = 0
            drop(1) = NULL | status() = 1 | as(0, 3) = 0 | status() = 0
            drop(1) = NULL | status() = 1 | drop(0) = 1 | status() = 0
            """);
    }
}
