/** Sentences about bells: promises 28 and 29. */
final class BellEdges {
    private BellEdges() {
    }

    static void tell(Edges e) {
        who(e);
        whoRefused(e);
        what(e);
        whatRefused(e);
    }

    private static void who(Edges e) {
        e.edge(28, "A row tells the RIDGE of a HAWK behind each of n HOURS (1 to 12) from now on", """
            text c9,30;q0,9,0;t1; = 1
            fly(0) = {0} | bell 0: 1 2 3 4 5 6 7 8 0 1 2 3 | bell 1: 1 2 3 4 5 6 7 8 0 1 2 2 3
            who(0, 0, 0, 0, 0, 12) = {4} | who(0, 0, 0, 0, 0, 1) = {4} | who(0, 0, 0, 1, 0, 11) = {4}
            who(0, 0, 0, 1, 0, 12) = {}
            who(0, 0, 0, 1, 0, 0) = BAD | who(0, 0, 0, 1, 0, 13) = BAD | who(0, 0, 0, 1, 0, -1) = BAD
            who(0, 0, 0, 1, 0, MIN) = BAD | who(0, 0, 0, 1, 0, MAX) = BAD
            """);
        e.edge(28, "(LOST: as where it was LOST): its bell", """
            text c5,2;q4,9,0;m1;p9; = 2
            fly(0) = {0} | bell 0: 1 2 2 2 | who(0, 0, 0, 0, 0, 4) = {1 4} | bell 1: 1 2 3
            who(0, 0, 0, 1, 0, 3) = {}
            hours(2) = 0 | hawk(0, 2) = 2 | bell 2: 2 2 2 | who(1, 0, 0, 2, 0, 3) = {1 2 3 4 5}
            who(1, 1, 0, 2, 0, 3) = {0 1 2 3 4 5 6 7 8 9}
            """);
        e.edge(28, "KINDS (bits 1 to 5)", """
            text c5,9;q4,9,0;m1; = 1
            bell 0: 0 0 | who(0, 0, 0, 0, 0, 2) = {1 2 3 4 5} | fly(0) = {0} | who(0, 0, 0, 0, 0, 2) = {3 5}
            bell 1: 1 2 | who(0, 0, 0, 1, 0, 2) = {1 4} | bell 2: 2 4 | who(0, 0, 0, 2, 0, 2) = {2}
            bell 3: -1 | who(0, 0, 0, 3, 0, 1) = {} | bell 4: 5 | who(0, 0, 0, 4, 0, 1) = {} | kind(0) = 1
            """);
        e.edge(28, "HUNGERS (0 to 9, bits) of a HAWK that is not LOST, by which it is so", """
            text c5,9;q4,9,0;m1;k1; = 2
            fly(0) = {0} | bell 0: 0 | who(0, 1, 0, 0, 0, 1) = {0} | bell 1: 1
            who(0, 1, 0, 1, 0, 1) = {1 2 3 4 5 6 7 8 9}
            who(1, 1, 0, 1, 0, 1) = {0 1 2 3 4 5 6 7 8 9} | who(1, 1, 0, 0, 0, 1) = {}
            who(1, 1, 1, 0, 0, 1) = {0 1 2 3 4 5 6 7 8 9}
            """);
        e.edge(28,
            "KINDS (which = 0), HUNGERS (1) of a HAWK by the bell of another one (or the same), n ITEMS of a "
            + "ROW from i on.", """
            text c5,9;q0,1,0;q3,2,0;k1;m2; = 2
            fly(0) = {0} | fly(1) = {0 1} | row(0, 0, 40) = 40 | set(0, 38, 1) = 1 | set(0, 39, 2) = 2
            who(0, 0, 1, 0, 38, 2) = {1 3} | who(0, 1, 1, 0, 38, 2) = {1 2 3 4 5 6 7 8 9}
            who(1, 0, 1, 0, 38, 2) = {1 4}
            who(0, 0, 1, 0, 37, 2) = {4 5}
            """);
    }

    private static void whoRefused(Edges e) {
        e.edge(28, "BAD: HAWK, which, OTHER, ROW, n", """
            row(0, 0, 12) = 12 | who(0, 0, 0, 0, 0, 1) = BAD
            text c5,9;q4,9,0;m1;k1; = 2
            who(-1, 0, 0, 0, 0, 1) = BAD | who(2, 0, 0, 0, 0, 1) = BAD | who(MAX, 0, 0, 0, 0, 1) = BAD
            who(0, -1, 0, 0, 0, 1) = BAD | who(0, 2, 0, 0, 0, 1) = BAD | who(0, MIN, 0, 0, 0, 1) = BAD
            who(0, 0, -1, 0, 0, 1) = BAD | who(0, 0, 2, 0, 0, 1) = BAD | who(0, 0, MIN, 0, 0, 1) = BAD
            who(0, 0, 0, -1, 0, 1) = BAD | who(0, 0, 0, 8, 0, 1) = BAD | who(0, 0, 0, MAX, 0, 1) = BAD
            who(0, 0, 0, 0, 0, 0) = BAD | who(0, 0, 0, 0, 0, 13) = BAD | who(0, 0, 0, 7, -1, 0) = BAD
            who(1, 1, 1, 0, 0, 12) = {0 1 2 3 4 5 6 7 8 9}
            """);
        e.edge(28, "STATE: it is LOST (behind BAD)", """
            text c2,1;q1,9,0;k1;k1; = 2
            fly(0) = {0} | hours(1) = 0 | row(0, 0, 2) = 2
            who(0, 0, 1, 0, 0, 1) = STATE | who(0, 1, 0, 0, 0, 1) = STATE
            who(0, 2, 1, 0, 0, 1) = BAD | who(0, 0, 2, 0, 0, 1) = BAD | who(0, 0, 1, 8, 0, 1) = BAD
            who(0, 0, 1, 0, 0, 13) = BAD
            who(0, 0, 1, 5, 0, 1) = STATE | who(0, 0, 1, 0, 2, 1) = STATE | status() = 0
            who(1, 0, 0, 0, 0, 1) = {1 2 3 4 5}
            """);
        e.edge(28, "STATE (as told), FULL (as told), then FINDINGS, of several the first in time", """
            text c2,1;q1,9,0;k1; = 1
            who(0, 0, 0, 0, -1, 1) = NULL | fly(0) = {0} | hours(1) = 0 | who(0, 0, 0, 0, -1, 1) = STATE
            who(0, 0, 0, 0, -1, 13) = BAD | status() = 1
            """);
        e.edge(28, "NULL; PLACE.", """
            text c2,9;q1,9,0;k1; = 1
            who(0, 0, 0, 0, 0, 1) = NULL | who(0, 0, 0, 0, -1, 1) = NULL | row(0, 0, 12) = 12
            who(0, 0, 0, 0, 0, 12) = {1 2 3 4 5} | who(0, 0, 0, 0, 11, 1) = {1 2 3 4 5}
            who(0, 0, 0, 0, -1, 1) = PLACE | who(0, 0, 0, 0, 1, 12) = PLACE | who(0, 0, 0, 0, 12, 1) = PLACE
            who(0, 0, 0, 0, MAX, 12) = PLACE | who(0, 0, 0, 0, MIN, 12) = PLACE
            row(1, 0, 0) = 0 | who(0, 0, 0, 1, 0, 1) = PLACE
            """);
    }

    private static void what(Edges e) {
        e.edge(29, "DRIFTS (0 to 2, bits)", """
            text c5,9;q2,9,0;m1; = 1
            bell 0: 0 0 | what(0, 0, 0, 0, 0, 2) = {0 1 2} | fly(0) = {0} | bell 1: 1 2 3
            what(0, 0, 0, 1, 0, 3) = {1}
            bell 2: 1 0 | what(0, 0, 0, 2, 0, 2) = {2} | bell 3: 1 2 2 | what(0, 0, 0, 3, 0, 3) = {0}
            what(0, 0, 0, 0, 0, 1) = {} | answer(0, 2) = 0
            """);
        e.edge(29, "PLACES (RIDGES, bits) of an ANSWER that is not KNOWN, by which it is so", """
            text c9,9;q4,9,0;m1; = 1
            bell 0: 0 | what(0, 1, 0, 0, 0, 1) = {0 1 2 3 4 5 6 7 8} | fly(0) = {0} | what(0, 1, 0, 0, 0, 1) = {0}
            bell 1: 1 2 3 4 5 6 7 | what(0, 1, 0, 1, 0, 7) = {7 8} | bell 2: 1 2 3 4 5 6 7 8
            what(0, 1, 0, 2, 0, 8) = {8}
            answer(0, 0) = 4
            text c2,9;q1,9,0;m1; = 1
            row(0, 2, 1) = 1 | what(0, 1, 0, 0, 0, 1) = {0 1}
            """);
        e.edge(29, "DRIFTS (which = 0), PLACES (1) of an ANSWER by the bell of a HAWK likewise.", """
            text c4,9;q1,9,0;q2,9,0;m1;t1; = 2
            fly(0) = {0} | fly(1) = {0 1} | row(7, 1, 40) = 40 | set(7, 38, 1) = 1 | set(7, 39, 2) = 2
            what(0, 1, 0, 7, 38, 2) = {2 3} | what(0, 0, 0, 7, 38, 2) = {1}
            what(1, 0, 1, 7, 38, 2) = {0 1 2} | what(1, 1, 1, 7, 38, 2) = {0 1 2 3}
            what(1, 1, 1, 7, 37, 2) = {} | what(0, 0, 1, 7, 38, 2) = {0 1 2} | what(0, 1, 1, 7, 38, 2) = {0 1 2 3}
            lay(0, 3) = 1 | what(1, 1, 0, 7, 38, 2) = {2 3} | what(1, 0, 0, 7, 38, 2) = {0 1}
            lay(0, 0) = 3 | what(1, 1, 0, 7, 38, 2) = {}
            """);
    }

    private static void whatRefused(Edges e) {
        e.edge(29, "BAD: ANSWER, which, HAWK, ROW, n", """
            row(0, 0, 12) = 12 | what(0, 0, 0, 0, 0, 1) = BAD
            text c5,9;q4,9,0;m1;k1; = 2
            what(-1, 0, 0, 0, 0, 1) = BAD | what(1, 0, 0, 0, 0, 1) = BAD | what(MAX, 0, 0, 0, 0, 1) = BAD
            what(0, -1, 0, 0, 0, 1) = BAD | what(0, 2, 0, 0, 0, 1) = BAD | what(0, MIN, 0, 0, 0, 1) = BAD
            what(0, 0, -1, 0, 0, 1) = BAD | what(0, 0, 2, 0, 0, 1) = BAD | what(0, 0, MIN, 0, 0, 1) = BAD
            what(0, 0, 0, -1, 0, 1) = BAD | what(0, 0, 0, 8, 0, 1) = BAD | what(0, 0, 0, MAX, 0, 1) = BAD
            what(0, 0, 0, 0, 0, 0) = BAD | what(0, 0, 0, 0, 0, 13) = BAD | what(0, 0, 0, 0, 0, -1) = BAD
            what(0, 0, 0, 7, -1, 0) = BAD | what(0, 0, 0, 0, 0, MIN) = BAD | what(0, 0, 0, 0, 0, MAX) = BAD
            what(0, 0, 1, 0, 0, 12) = {0 1 2}
            """);
        e.edge(29, "STATE: it is KNOWN (behind BAD)", """
            text c2,1;q0,1,0;q1,9,0;k1; = 1
            fly(0) = {0} | hours(1) = 1 | row(0, 0, 2) = 2
            what(0, 0, 0, 0, 0, 1) = STATE | what(0, 1, 0, 0, 0, 1) = STATE
            what(0, 2, 0, 0, 0, 1) = BAD | what(0, 0, 1, 0, 0, 1) = BAD | what(0, 0, 0, 8, 0, 1) = BAD
            what(0, 0, 0, 0, 0, 13) = BAD
            what(0, 0, 0, 5, 0, 1) = STATE | what(0, 0, 0, 0, 2, 1) = STATE | status() = 0
            hours(1) = 1 | hawk(0, 2) = 2 | what(1, 0, 0, 0, 0, 2) = {0 1 2} | what(1, 1, 0, 0, 0, 2) = {0 1}
            """);
        e.edge(29, "NULL; PLACE.", """
            text c2,9;q1,9,0;k1; = 1
            what(0, 0, 0, 0, 0, 1) = NULL | what(0, 0, 0, 0, -1, 1) = NULL | row(0, 0, 12) = 12
            what(0, 0, 0, 0, 0, 12) = {0 1 2} | what(0, 0, 0, 0, 11, 1) = {0 1 2}
            what(0, 0, 0, 0, -1, 1) = PLACE | what(0, 0, 0, 0, 1, 12) = PLACE | what(0, 0, 0, 0, 12, 1) = PLACE
            what(0, 0, 0, 0, MAX, 12) = PLACE | what(0, 0, 0, 0, MIN, 12) = PLACE
            row(1, 0, 0) = 0 | what(0, 0, 0, 1, 0, 1) = PLACE
            """);
    }
}
