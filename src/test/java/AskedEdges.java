/** Sentences about images, kinds, asks, the trace and counts: promises 32 to 38, and 39 where it is about as(). */
final class AskedEdges {
    private static final String FIVE = "text c9,20;q8,9,0;q8,1,0;m3;p4;k5;t6;b7; = 5\n";

    private AskedEdges() {
    }

    static void tell(Edges e) {
        image(e);
        restore(e);
        kind(e);
        as(e);
        ask(e);
        sizes(e);
        marks(e);
        trace(e);
        count(e);
    }

    private static void image(Edges e) {
        e.edge(32, "An IMAGE (0, 1) is kept of the CASTLE: 1.", """
            text c3,9;q1,2,0;m5; = 1
            image(0) = 1 | starve(0, 6) = 5 | image(1) = 1 | starve(0, 7) = 6 | count(6) = 2
            restore(0) = 1 | hawk(0, 0) = 5 | restore(1) = 1 | hawk(0, 0) = 6 | image(0) = 1 | restore(0) = 1
            hawk(0, 0) = 6
            image(-1) = BAD | image(2) = BAD | image(MIN) = BAD | image(MAX) = BAD
            """);
        e.edge(32, "BAD; STATE: no CASTLE.", """
            image(0) = STATE | image(1) = STATE | image(-1) = BAD | image(2) = BAD | restore(0) = STATE
            """);
    }

    private static void restore(Edges e) {
        e.edge(33, "The CASTLE is as an IMAGE kept it (no ACT can be undone then): 1.", """
            text c3,2;q1,2,1;q2,4,0;q0,9,0;m5;k1;k9; = 3
            fly(0) = {0} | fly(1) = {0 1} | fly(2) = {0 1 2} | hours(2) = 11 | image(1) = 1 | count(6) = 5
            text c9,30;q8,9,2;t1;t2;t3;t4; = 4
            fly(3) = {3} | hours(4) = 0 | restore(1) = 1 | count(6) = 0 | undo() = STATE
            count(1) = 3 | count(2) = 3 | count(3) = 2 | stand(0) = {0 2} | stand(1) = {1} | stand(2) = {0 2}
            stand(4) = 3 | stand(5) = 2 | kind(0) = 1 | kind(1) = 3 | answer(0, 0) = 1 | answer(0, 2) = 2
            hawk(0, 0) = 3 | hawk(0, 1) = 1 | hawk(2, 0) = 0 | hawk(2, 3) = 1 | starve(0, 9) = 3 | undo() = 0
            """);
        e.edge(33, "STATE: none was kept.", """
            restore(0) = STATE | restore(1) = STATE
            text c3,9;q1,2,0;m5; = 1
            restore(0) = STATE | starve(0, 6) = 5 | image(1) = 1 | restore(0) = STATE | count(6) = 1 | hawk(0, 0) = 6
            """);
        e.edge(33, "BAD; STATE", """
            restore(-1) = BAD | restore(2) = BAD | restore(MIN) = BAD | restore(MAX) = BAD
            text c3,9;q1,2,0;m5; = 1
            image(0) = 1 | image(1) = 1 | starve(0, 6) = 5 | restore(-1) = BAD | restore(2) = BAD | hawk(0, 0) = 6
            """);
    }

    private static void kind(Edges e) {
        e.edge(34, "The KIND of a HAWK, as told (1 to 5).", FIVE + """
            kind(0) = 1 | kind(1) = 2 | kind(2) = 3 | kind(3) = 4 | kind(4) = 5
            """);
        e.edge(34, "BAD.", "kind(0) = BAD\n" + FIVE + """
            kind(-1) = BAD | kind(5) = BAD | kind(MIN) = BAD | kind(MAX) = BAD
            text c2,1;q1,9,0;k1; = 1
            kind(1) = BAD | fly(0) = {0} | hours(1) = 0 | kind(0) = 3
            """);
    }

    private static void as(Edges e) {
        e.edge(35, "A HAWK is taken as one of a KIND (0 .. 5): its number.", FIVE + """
            as(0, 0) = 0 | as(4, 0) = 4 | as(4, 5) = 4 | as(4, 6) = BAD | as(4, -1) = BAD | as(0, MIN) = BAD
            as(0, MAX) = BAD
            """);
        e.edge(35, "BAD; KIND: it is no such one.", "as(0, 0) = BAD\n" + FIVE + """
            as(-1, 0) = BAD | as(5, 0) = BAD | as(MAX, 6) = BAD | status() = 0
            as(0, 2) = KIND | as(0, 3) = KIND | as(0, 4) = KIND | as(0, 5) = KIND | status() = 3
            as(9, 0) = BAD | as(0, 6) = BAD | status() = 3 | as(0, 1) = 0 | status() = 0
            """);
        e.edge(35, "3 KIND (a HAWK that is not that)", FIVE + """
            as(3, 5) = KIND | status() = 3 | as(1, 4) = KIND | status() = 3 | as(1, 1) = 1 | status() = 0
            """);
        e.edge(35,
            "KINDS of HAWKS: 0 HAWK; 1 MERLIN, a HAWK; 2 PEREGRINE, a MERLIN; 3 KESTREL, a MERLIN; 4 KITE, a "
            + "HAWK; 5 BLIND, a KITE.", FIVE + """
            as(0, 0) = 0 | as(0, 1) = 0 | as(0, 2) = KIND | as(0, 3) = KIND | as(0, 4) = KIND | as(0, 5) = KIND
            as(1, 0) = 1 | as(1, 1) = 1 | as(1, 2) = 1 | as(1, 3) = KIND | as(1, 4) = KIND | as(1, 5) = KIND
            as(2, 0) = 2 | as(2, 1) = 2 | as(2, 2) = KIND | as(2, 3) = 2 | as(2, 4) = KIND | as(2, 5) = KIND
            as(3, 0) = 3 | as(3, 1) = KIND | as(3, 2) = KIND | as(3, 3) = KIND | as(3, 4) = 3 | as(3, 5) = KIND
            as(4, 0) = 4 | as(4, 1) = KIND | as(4, 2) = KIND | as(4, 3) = KIND | as(4, 4) = 4 | as(4, 5) = 4
            """);
    }

    private static void ask(Edges e) {
        e.edge(36, "An ASK (0, 1) of a HAWK.", FIVE + """
            ask(0, 0) = 3 | ask(0, 1) = 0 | ask(0, -1) = BAD | ask(0, 2) = BAD | ask(0, MIN) = BAD | ask(0, MAX) = BAD
            """);
        e.edge(36, "BAD.", "ask(0, 0) = BAD\n" + FIVE + """
            ask(-1, 0) = BAD | ask(5, 0) = BAD | ask(MIN, 0) = BAD | ask(MAX, 1) = BAD | ask(4, 1) = 190
            """);
        e.edge(36, "THE TRACE is empty ahead of it.", FIVE + """
            trace(0) = NONE | ask(1, 0) = -6 | trace(5) = 20 | trace(6) = NONE
            ask(3, 0) = -94 | trace(0) = 13 | trace(1) = 10 | trace(2) = NONE | trace(5) = NONE
            ask(3, 2) = BAD | ask(5, 0) = BAD | trace(0) = 13 | trace(1) = 10 | trace(2) = NONE
            """);
        e.edge(36, "By this it is asked.", FIVE + """
            ask(4, 1) = 190 | trace(0) = 23 | ask(2, 0) = -993 | trace(0) = 11 | trace(2) = 22
            """);
        e.edge(36,
            "(Of an ask the BODY told for the KIND begins, else that of the nearest KIND that it is, too, else "
            + "the one that is lent; SIZE, MARK within others are asked of the same HAWK anew.)", FIVE + """
            ask(1, 0) = -6 | trace(0) = 12 | trace(1) = 11 | trace(2) = 10 | trace(3) = 24 | trace(4) = 21
            trace(5) = 20
            ask(2, 0) = -993 | trace(0) = 11 | trace(1) = 10 | trace(2) = 22 | trace(3) = 21 | trace(4) = 20
            trace(5) = NONE
            ask(4, 1) = 190 | trace(0) = 23 | trace(1) = 20 | trace(2) = 14 | trace(3) = 13 | trace(4) = 10
            trace(5) = NONE
            """);
    }

    private static void sizes(Edges e) {
        e.edge(36, "0 SIZE: 10 lent to all HAWKS: HUNGER", """
            text c9,20;q8,9,0;t0;t9; = 2
            ask(0, 0) = -100 | trace(1) = 10 | ask(1, 0) = -91 | trace(1) = 10
            """);
        e.edge(36, "11 of MERLINS: what 10 gives, and MARK.", FIVE + """
            fly(0) = {0} | hours(2) = 0 | ask(0, 0) = 5 | trace(0) = 11 | trace(1) = 10 | trace(2) = 21
            trace(3) = 20
            trace(4) = NONE
            """);
        e.edge(36, "12 of PEREGRINES: 0 less what 11 gives.", FIVE + """
            fly(1) = {1} | hours(2) = 0 | ask(1, 0) = -14 | starve(1, 0) = 4 | ask(1, 0) = -10
            """);
        e.edge(36, "13 of KITES: what 10 gives, less 100.", FIVE + """
            ask(3, 0) = -94 | trace(0) = 13 | trace(1) = 10 | trace(2) = NONE
            """);
        e.edge(36, "14 of BLIND ones: what 13 gives, twice.", FIVE + """
            ask(4, 0) = -186 | trace(0) = 14 | trace(1) = 13 | trace(2) = 10 | trace(3) = NONE
            """);
    }

    private static void marks(Edges e) {
        e.edge(36, "1 MARK: 20 lent to all HAWKS: the number.", """
            text c9,20;q8,9,0;m0;m0;m0;m0;m0; = 5
            ask(0, 1) = 0 | ask(4, 1) = 4 | trace(0) = 21 | trace(1) = 20 | trace(2) = NONE
            """);
        e.edge(36, "21 of MERLINS: what 20 gives, and the RIDGE (LOST: where).", """
            text c9,2;q8,9,0;k1;m1; = 2
            ask(1, 1) = 1 | fly(1) = {1} | hours(1) = 0 | ask(1, 1) = 2 | hours(1) = 0 | hawk(1, 2) = 2
            ask(1, 1) = 3 | hours(5) = 0 | ask(1, 1) = 3 | trace(0) = 21 | trace(1) = 20 | trace(2) = NONE
            """);
        e.edge(36, "22 of KESTRELS: what 21 gives, less 1000.", FIVE + """
            ask(2, 1) = -998 | trace(0) = 22 | trace(1) = 21 | trace(2) = 20 | trace(3) = NONE
            """);
        e.edge(36, "23 of KITES: what 20 gives, less SIZE.", FIVE + """
            ask(3, 1) = 97 | trace(0) = 23 | trace(1) = 20 | trace(2) = 13 | trace(3) = 10 | trace(4) = NONE
            """);
        e.edge(36, "24 of PEREGRINES: what 21 gives, twice.", FIVE + """
            fly(1) = {1} | hours(1) = 0 | ask(1, 1) = 6 | trace(0) = 24 | trace(1) = 21 | trace(2) = 20
            trace(3) = NONE
            """);
    }

    private static void trace(Edges e) {
        e.edge(37, "Number i of THE TRACE; NONE.", FIVE + """
            trace(0) = NONE | ask(3, 0) = -94 | trace(0) = 13 | trace(1) = 10 | trace(2) = NONE
            trace(-1) = NONE | trace(15) = NONE | trace(16) = NONE | trace(MIN) = NONE | trace(MAX) = NONE
            """);
        e.edge(37,
            "ASKS of HAWKS, by BODIES, each of which leaves its number in THE TRACE as it begins (the first "
            + "16)", FIVE + """
            ask(4, 1) = 190 | trace(0) = 23 | trace(1) = 20 | trace(2) = 14 | trace(3) = 13 | trace(4) = 10
            trace(5) = NONE | trace(6) = NONE
            """);
    }

    private static void count(Edges e) {
        e.edge(38, "0 ROWS, 1 HAWKS, 2 ANSWERS, 3 HOUR, 4 how many are KNOWN, 5 how many are LOST", """
            text c3,2;q0,3,0;q2,5,0;q2,5,0;m0;k9;p9;k0; = 4
            row(2, 0, 4) = 4 | row(5, 0, 0) = 0 | row(2, 1, 1) = 1 | count(0) = 2 | count(1) = 4 | count(2) = 3
            count(3) = 0 | count(4) = 0 | count(5) = 0 | fly(0) = {0} | fly(1) = {0 1} | fly(3) = {0 1 3}
            hours(2) = 3
            count(3) = 2 | count(4) = 1 | count(5) = 2 | count(1) = 4 | count(2) = 3
            """);
        e.edge(38, "6 ACTS that can be undone, 7 bytes on the tape", """
            count(6) = 0 | count(7) = 0 | text c3,2;q0,3,0;m0; = 1
            fly(0) = {0} | count(6) = 1 | undo() = 0 | count(6) = 0 | hours(24) = 0 | fly(0) = {0} | count(6) = 24
            feed(99) = 1 | feed(0) = 2 | count(7) = 2 | castle() = -1000101 | count(7) = 0
            120 times feed(99) | count(7) = 120
            """);
        e.edge(38, "BAD.", """
            count(-1) = BAD | count(8) = BAD | count(MIN) = BAD | count(MAX) = BAD
            """);
        e.edge(38, "Sets are bits.", """
            text c2,9;q0,1,0;q1,9,0;q0,2,0;k1;m0;k2; = 3
            fly(0) = {0} | fly(2) = 5 | stand(0) = 5 | hours(1) = 3 | stand(2) = 5
            """);
    }
}
