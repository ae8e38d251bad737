/** Sentences about hours and the rules by which they pass: promise 10. */
final class HourEdges {
    private HourEdges() {
    }

    static void tell(Edges e) {
        hours(e);
        merlins(e);
        peregrines(e);
        otherKinds(e);
        takes(e);
        drifts(e);
        hawkByHawk(e);
        aloft(e);
        hunger(e);
    }

    private static void hours(Edges e) {
        e.edge(10, "n HOURS (1 to 24)", """
            text c2,9;q1,9,0;k1; = 1
            hours(1) = 0 | count(3) = 1 | hours(24) = 0 | count(3) = 25
            hours(0) = BAD | hours(25) = BAD | hours(-1) = BAD | hours(MIN) = BAD | hours(MAX) = BAD | count(3) = 25
            """);
        e.edge(10, "an ACT each", """
            text c9,9;q1,9,1;k0; = 1
            hours(4) = 0 | count(6) = 4 | hawk(0, 0) = 1 | answer(0, 0) = 5
            undo() = 3 | count(3) = 3 | hawk(0, 0) = 1 | answer(0, 0) = 4
            undo() = 2 | count(3) = 2 | hawk(0, 0) = 0 | answer(0, 0) = 3
            hours(24) = 0 | count(6) = 24
            """);
        e.edge(10, "WORTH of all that is KNOWN then", """
            text c2,9;q0,9,0;q0,1,0;q1,5,0;k9; = 1
            hours(1) = 0 | fly(0) = {0} | hours(1) = 9 | starve(0, 1) = 0 | hours(1) = 10 | hours(1) = 10
            """);
        e.edge(10, "STATE: no CASTLE (ahead of BAD)", """
            hours(1) = STATE | hours(0) = STATE | hours(25) = STATE | hours(-1) = STATE
            """);
        e.edge(10, "FULL: HOUR would be above 999.", """
            text c2,9;q1,9,0;k1; = 1
            41 times hours(24) = 0 | count(3) = 984
            hours(16) = FULL | hours(24) = FULL | count(3) = 984 | hours(15) = 0 | count(3) = 999
            hours(1) = FULL | hours(0) = BAD | hours(25) = BAD | count(3) = 999 | count(6) = 24
            undo() = 23 | count(3) = 998 | hours(2) = FULL | hours(1) = 0 | count(3) = 999
            """);
        e.edge(10, "HOUR is 1 more.", """
            text c2,9;q1,9,0;k1; = 1
            count(3) = 0 | hours(1) = 0 | count(3) = 1 | hours(3) = 0 | count(3) = 4
            """);
    }

    private static void merlins(Edges e) {
        e.edge(10, "a merlin the ANSWER that is not KNOWN and nearest, of several the least number", """
            text c5,9;q2,9,0;q4,9,0;m1; = 1
            fly(0) = {0} | hours(2) = 0 | hawk(0, 1) = 2
            lay(0, 3) = 2 | lay(1, 1) = 4 | hours(1) = 0 | hawk(0, 1) = 3
            text c5,9;q2,9,0;q4,9,0;m1; = 1
            fly(0) = {0} | hours(2) = 0 | hawk(0, 1) = 2
            lay(0, 1) = 2 | lay(1, 3) = 4 | hours(1) = 0 | hawk(0, 1) = 1
            text c5,9;q1,1,0;q4,9,0;m1; = 1
            fly(0) = {0} | hours(1) = 1 | starve(0, 1) = 0 | hours(1) = 1 | hawk(0, 1) = 2
            """);
        e.edge(10, "(it stays, if all are KNOWN)", """
            text c4,9;q1,1,0;m9;p9; = 2
            fly(0) = {0} | fly(1) = {0 1} | hours(1) = 1 | hours(3) = 1
            hawk(0, 1) = 1 | hawk(0, 3) = 3 | hawk(1, 1) = 0 | hawk(1, 3) = 4
            """);
        e.edge(10, "A merlin goes one RIDGE nearer", """
            text c9,9;q8,9,0;m1; = 1
            fly(0) = {0} | hours(1) = 0 | hawk(0, 1) = 1 | hours(1) = 0 | hawk(0, 1) = 2
            lay(0, 0) = 8 | hours(1) = 0 | hawk(0, 1) = 1 | lay(0, 1) = 0 | hours(1) = 0 | hawk(0, 1) = 1
            """);
    }

    private static void peregrines(Edges e) {
        e.edge(10, "a peregrine that of greatest WORTH", """
            text c9,9;q1,8,0;q8,9,0;p1; = 1
            fly(0) = {0} | hours(3) = 0 | hawk(0, 1) = 6 | hours(1) = 9 | stand(2) = {1}
            text c9,9;q7,1,0;q4,1,0;p1; = 1
            fly(0) = {0} | hawk(0, 4) = 1 | hours(1) = 0 | hawk(0, 1) = 2 | hours(1) = 1 | stand(2) = {1}
            """);
        e.edge(10, "of several the nearest, then the least number", """
            text c9,9;q8,5,0;q3,5,0;p1; = 1
            fly(0) = {0} | hours(2) = 5 | stand(2) = {1} | hawk(0, 1) = 3
            text c9,9;q8,9,0;q8,9,0;p1; = 1
            fly(0) = {0} | hours(2) = 0 | lay(0, 6) = 8 | lay(1, 2) = 8 | hours(1) = 9 | stand(2) = {0}
            hawk(0, 1) = 6
            text c9,9;q8,9,0;q8,9,0;p1; = 1
            fly(0) = {0} | hours(2) = 0 | lay(0, 2) = 8 | lay(1, 6) = 8 | hours(1) = 9 | stand(2) = {0}
            hawk(0, 1) = 2
            """);
        e.edge(10, "a peregrine two (no farther than there)", """
            text c9,9;q3,9,0;p1; = 1
            fly(0) = {0} | hours(1) = 0 | hawk(0, 1) = 2 | hours(1) = 9 | hawk(0, 1) = 3
            text c9,9;q8,9,0;p1; = 1
            fly(0) = {0} | hours(3) = 0 | hawk(0, 1) = 6 | lay(0, 3) = 8
            hours(1) = 0 | hawk(0, 1) = 4 | hours(1) = 9 | hawk(0, 1) = 3
            text c9,9;q0,9,0;p1; = 1
            fly(0) = {0} | hours(1) = 9 | hawk(0, 1) = 0
            text c2,9;q1,9,0;p1; = 1
            fly(0) = {0} | hours(1) = 9 | hawk(0, 1) = 1
            """);
    }

    private static void otherKinds(Edges e) {
        e.edge(10, "a kestrel stays", """
            text c3,9;q1,1,0;k9; = 1
            fly(0) = {0} | hours(4) = 0 | hawk(0, 1) = 0
            text c5,9;q4,9,0;m1; = 1
            fly(0) = {0} | hours(3) = 0 | hawk(0, 1) = 3 | bell 0: 3 3 3 | who(0, 0, 0, 0, 0, 3) = {3}
            """);
        e.edge(10, "a kite goes up, one RIDGE (from the last one to RIDGE 0)", """
            text c3,9;q1,9,0;t1; = 1
            fly(0) = {0} | hours(1) = 0 | hawk(0, 1) = 1 | hours(1) = 0 | hawk(0, 1) = 2
            hours(1) = 0 | hawk(0, 1) = 0 | hours(1) = 0 | hawk(0, 1) = 1
            text c2,9;q1,9,0;t1; = 1
            fly(0) = {0} | hours(1) = 0 | hawk(0, 1) = 1 | hours(1) = 0 | hawk(0, 1) = 0
            text c9,30;q1,9,0;t1; = 1
            fly(0) = {0} | hours(8) = 0 | hawk(0, 1) = 8 | hours(1) = 0 | hawk(0, 1) = 0
            """);
        e.edge(10, "a blind one down, one RIDGE", """
            text c5,9;q4,9,0;m1; = 1
            fly(0) = {0} | hours(3) = 0 | hawk(0, 1) = 3
            bell 0: 2 1 0 0 | who(0, 0, 0, 0, 0, 4) = {5}
            """);
        e.edge(10, "but stays on RIDGE 0", """
            text c5,9;q4,9,0;b1; = 1
            fly(0) = {0} | hours(1) = 0 | hawk(0, 1) = 0 | hours(4) = 0 | hawk(0, 1) = 0 | hawk(0, 3) = 5
            """);
    }

    private static void takes(Edges e) {
        e.edge(10,
            "It TAKES, of ANSWERS on its RIDGE that are not KNOWN, that of greatest WORTH, of several the least "
            + "number", """
            text c2,9;q0,2,0;q0,4,0;q1,9,0;q0,4,0;q0,3,0;k9; = 1
            fly(0) = {0} | hours(1) = 4 | stand(2) = {1} | hawk(0, 0) = 5
            hours(1) = 8 | stand(2) = {1 3} | hawk(0, 0) = 1
            """);
        e.edge(10, "a merlin, a kestrel of those of WORTH no more than HUNGER", """
            text c2,9;q0,4,0;m4; = 1
            fly(0) = {0} | hours(1) = 4
            text c2,9;q0,4,0;m3; = 1
            fly(0) = {0} | hours(1) = 0
            text c2,9;q0,4,0;k4; = 1
            fly(0) = {0} | hours(1) = 4
            text c2,9;q0,4,0;k3; = 1
            fly(0) = {0} | hours(1) = 0
            text c2,9;q0,5,0;q0,3,0;k4; = 1
            fly(0) = {0} | hours(1) = 3 | stand(2) = {1}
            """);
        e.edge(10, "a peregrine of all", """
            text c2,9;q0,9,0;p1; = 1
            fly(0) = {0} | hours(1) = 9
            """);
        e.edge(10, "a kite, a blind one of those of WORTH less than HUNGER", """
            text c2,9;q1,4,0;t5; = 1
            fly(0) = {0} | hours(1) = 4
            text c2,9;q1,4,0;t4; = 1
            fly(0) = {0} | hours(1) = 0
            text c2,9;q0,4,0;b5; = 1
            fly(0) = {0} | hours(1) = 4
            text c2,9;q0,4,0;b4; = 1
            fly(0) = {0} | hours(1) = 0
            text c2,9;q0,9,0;b9; = 1
            fly(0) = {0} | hours(8) = 0
            """);
    }

    private static void drifts(Edges e) {
        e.edge(10, "each ANSWER that is not KNOWN goes one RIDGE by its DRIFT", """
            text c4,9;q1,1,0;q1,1,1;q2,1,2;k1; = 1
            hours(1) = 0 | answer(0, 0) = 1 | answer(1, 0) = 2 | answer(2, 0) = 1
            text c4,9;q1,1,2;q1,9,2;k1; = 1
            fly(0) = {0} | hours(1) = 1 | hours(2) = 1
            answer(0, 0) = 0 | answer(0, 2) = 2 | answer(1, 0) = 2 | answer(1, 2) = 1
            """);
        e.edge(10, "(at the end of the RIDGES it turns, DRIFT is the other one, and goes the other way)", """
            text c3,9;q2,1,1;q0,1,2;q1,1,1;q1,1,2;q2,1,0;q0,1,0;k0; = 1
            hours(1) = 0
            answer(0, 0) = 1 | answer(0, 2) = 2 | answer(1, 0) = 1 | answer(1, 2) = 1
            answer(2, 0) = 2 | answer(2, 2) = 1 | answer(3, 0) = 0 | answer(3, 2) = 2
            answer(4, 0) = 2 | answer(4, 2) = 0 | answer(5, 0) = 0 | answer(5, 2) = 0
            hours(1) = 0
            answer(0, 0) = 0 | answer(0, 2) = 2 | answer(1, 0) = 2 | answer(1, 2) = 1
            answer(2, 0) = 1 | answer(2, 2) = 2 | answer(3, 0) = 1 | answer(3, 2) = 1
            text c2,9;q1,1,1;q0,1,1;k0; = 1
            hours(1) = 0 | answer(0, 0) = 0 | answer(0, 2) = 2 | answer(1, 0) = 1 | answer(1, 2) = 1
            hours(1) = 0 | answer(0, 0) = 1 | answer(0, 2) = 1 | answer(1, 0) = 0 | answer(1, 2) = 2
            """);
        e.edge(10, "0 stays, 1 goes up, 2 goes down", """
            text c3,9;q1,1,0;q1,1,1;q1,1,2;k0; = 1
            hours(1) = 0 | answer(0, 0) = 1 | answer(1, 0) = 2 | answer(2, 0) = 0
            """);
    }

    private static void hawkByHawk(Edges e) {
        e.edge(10, "Then HAWK by HAWK that is FLOWN", """
            text c2,9;q0,2,0;k2;k2;k2; = 3
            hours(1) = 0 | fly(1) = {1} | fly(2) = {1 2} | hours(1) = 2
            hawk(0, 0) = 2 | hawk(1, 0) = 0 | hawk(2, 0) = 2 | hawk(2, 3) = 1
            text c3,9;q2,1,2;m1; = 1
            fly(0) = {0} | hours(1) = 1 | hawk(0, 1) = 1
            text c4,9;q0,1,0;q2,1,0;k1;m9; = 2
            fly(0) = {0} | fly(1) = {0 1} | hours(1) = 1 | hawk(1, 1) = 1
            """);
        e.edge(10, "and has HUNGER above 0: it goes, then it TAKES, if it can", """
            text c4,9;q3,9,0;m0;p0;t0; = 3
            fly(0) = {0} | fly(1) = {0 1} | fly(2) = {0 1 2} | hours(3) = 0
            hawk(0, 1) = 0 | hawk(1, 1) = 0 | hawk(2, 1) = 0 | hours(1) = 0
            hawk(0, 1) = 1 | hawk(1, 1) = 2 | hawk(2, 1) = 1
            text c2,9;q0,1,0;p0; = 1
            fly(0) = {0} | hours(3) = 0 | hours(1) = 1
            """);
        e.edge(10, "HUNGER is WORTH less (0 at least)", """
            text c2,9;q0,9,0;q0,4,0;p1;k9;k4; = 3
            fly(1) = {1} | hours(1) = 9 | hawk(1, 0) = 0 | fly(2) = {1 2} | hours(1) = 13 | hawk(2, 0) = 0
            text c2,9;q0,9,0;q0,4,0;p1;k9; = 2
            fly(0) = {0} | hours(1) = 9 | hawk(0, 0) = 0 | fly(1) = {0 1} | hours(1) = 13 | hawk(1, 0) = 5
            """);
    }

    private static void aloft(Edges e) {
        e.edge(10, "ALOFT is 0; if it TAKES none, ALOFT is 1 more", """
            text c3,3;q2,1,0;m5; = 1
            fly(0) = {0} | hours(1) = 0 | hawk(0, 3) = 1 | hours(1) = 1 | hawk(0, 3) = 0
            hours(1) = 1 | hawk(0, 3) = 1 | hours(1) = 1 | hawk(0, 3) = 2
            """);
        e.edge(10, "(a HAWK without HUNGER sits: ALOFT is 1 more, too)", """
            text c3,2;q2,1,0;t0; = 1
            fly(0) = {0} | hours(1) = 0 | hawk(0, 3) = 1 | hawk(0, 1) = 0 | hours(1) = 0 | hawk(0, 2) = 2
            hawk(0, 1) = 0
            """);
        e.edge(10, "If ALOFT is LONG then, it is LOST.", """
            text c3,1;q2,1,0;m5;k5; = 2
            fly(0) = {0} | hours(1) = 0 | hawk(0, 2) = 2 | hawk(0, 1) = 1 | hawk(1, 2) = 0
            text c3,2;q2,1,0;m5; = 1
            fly(0) = {0} | hours(2) = 1 | hawk(0, 2) = 1 | hours(1) = 1 | hawk(0, 2) = 1 | hours(1) = 1
            hawk(0, 2) = 2
            text c2,30;q1,9,0;k0; = 1
            fly(0) = {0} | hours(24) = 0 | hours(5) = 0 | hawk(0, 2) = 1 | hawk(0, 3) = 29
            hours(1) = 0 | hawk(0, 2) = 2 | hawk(0, 3) = 0
            """);
    }

    private static void hunger(Edges e) {
        e.edge(10, "in an HOUR by 3 that leaves 2 has 1 more HUNGER behind it", """
            text c2,9;q1,9,0;k0; = 1
            hours(1) = 0 | hawk(0, 0) = 0 | hours(1) = 0 | hawk(0, 0) = 0 | hours(1) = 0 | hawk(0, 0) = 1
            hours(1) = 0 | hawk(0, 0) = 1 | hours(1) = 0 | hawk(0, 0) = 1 | hours(1) = 0 | hawk(0, 0) = 2
            """);
        e.edge(10, "(9 at most), on the WRIST too", """
            text c2,30;q1,9,0;k8;k9;k8;k9; = 4
            fly(0) = {0} | fly(1) = {0 1} | hours(3) = 0
            hawk(0, 0) = 9 | hawk(1, 0) = 9 | hawk(2, 0) = 9 | hawk(3, 0) = 9
            hours(3) = 0 | hawk(0, 0) = 9 | hawk(1, 0) = 9 | hawk(2, 0) = 9 | hawk(3, 0) = 9
            """);
        e.edge(10, "Each HAWK that is not LOST", """
            text c2,3;q1,9,0;k1;k1; = 2
            fly(0) = {0} | hours(3) = 0 | hawk(0, 2) = 2 | hawk(0, 0) = 1 | hawk(1, 0) = 2
            hours(3) = 0 | hawk(0, 0) = 1 | hawk(1, 0) = 3
            """);
        e.edge(10, "and TAKES none in an HOUR", """
            text c5,9;q3,1,0;m5; = 1
            fly(0) = {0} | hours(3) = 1 | hawk(0, 0) = 4
            text c5,9;q2,1,0;m5; = 1
            fly(0) = {0} | hours(2) = 1 | hawk(0, 0) = 4 | hours(1) = 1 | hawk(0, 0) = 5
            """);
    }
}
