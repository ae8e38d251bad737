/** Sentences about what is foretold, but for bells: promises 18 to 27, 30 and 31. */
final class ForetoldEdges {
    /** The kestrel takes the 2 in hour 7, a 9 in hour 34 and the other in hour 61, counted from HOUR 0. */
    private static final String SLOW = "text c2,30;q0,2,0;q0,9,0;q0,9,0;k0; = 1\n";

    private ForetoldEdges() {
    }

    static void tell(Edges e) {
        nothingChanges(e);
        ahead(e);
        later(e);
        known(e);
        lost(e);
        first(e);
        flies(e);
        fliesRefused(e);
        waits(e);
        waitsRefused(e);
        starves(e);
        falconers(e);
        falconersRefused(e);
        nearest(e);
        moult(e);
        moultRefused(e);
        drawn(e);
        drawnRefused(e);
    }

    private static void nothingChanges(Edges e) {
        e.edge(18, "FORETOLD (nothing changes).", """
            text c5,4;q2,3,0;q4,9,0;q1,1,1;m3;k0; = 2
            fly(0) = {0} | bell 0: 1 2 | ask(0, 1) = 0
            ahead(0, 60, 0) | later(0, 60) | known(1) | lost(0) | first(0) | flies(60, 0) | waits(1, 0, 0)
            starves(0, 0, 30) | falconers(4, 20) | nearest(0, 0) | who(0, 0, 0, 0, 0, 2) | who(0, 1, 0, 0, 0, 2)
            what(0, 0, 0, 0, 0, 2) | what(0, 1, 0, 0, 0, 2) | moult(0, 60, 5, 0) | drawn(60, 5, 0)
            stand(0) = {0} | stand(1) = {} | stand(2) = {} | count(3) = 0 | count(6) = 1 | trace(0) = 21
            kind(0) = 1 | hawk(0, 0) = 3 | hawk(0, 1) = 0 | hawk(0, 3) = 0 | hawk(1, 0) = 0 | hawk(1, 2) = 0
            answer(0, 0) = 2 | answer(1, 0) = 4 | answer(2, 0) = 1 | answer(2, 2) = 1 | drop(0) = 2
            """);
    }

    private static void ahead(Edges e) {
        e.edge(18, "AHEAD by n HOURS (0 to 60)", """
            text c9,30;q8,9,0;t1;k0; = 2
            fly(0) = {0} | ahead(0, 0, 0) = 0 | ahead(0, 1, 0) = 1 | ahead(0, 29, 0) = 2
            ahead(1, 60, 0) = 0 | ahead(1, 60, 1) = 9 | ahead(0, 60, 0) = NONE
            ahead(0, -1, 0) = BAD | ahead(0, 61, 0) = BAD | ahead(0, MIN, 0) = BAD | ahead(0, MAX, 0) = BAD
            """);
        e.edge(18, "RIDGE of a HAWK (NONE: LOST)", """
            text c5,4;q2,3,0;q4,9,0;m3; = 1
            fly(0) = {0} | ahead(0, 5, 0) = 4 | ahead(0, 6, 0) = NONE | ahead(0, 7, 0) = NONE
            hours(6) = 3 | ahead(0, 0, 0) = NONE
            """);
        e.edge(18, "AHEAD: RIDGE (what = 0; NONE), HUNGER (1).", """
            text c5,4;q2,3,0;q4,9,0;m3;k0; = 2
            fly(0) = {0} | ahead(0, 0, 1) = 3 | ahead(0, 2, 1) = 0 | ahead(0, 3, 1) = 1 | ahead(0, 6, 1) = 1
            ahead(0, 60, 1) = 1 | ahead(1, 2, 1) = 0 | ahead(1, 3, 1) = 1 | ahead(1, 26, 1) = 8 | ahead(1, 27, 1) = 9
            ahead(0, 0, -1) = BAD | ahead(0, 0, 2) = BAD | ahead(0, 0, MIN) = BAD | ahead(0, 0, MAX) = BAD
            """);
        e.edge(18, "BAD.", """
            ahead(0, 0, 0) = BAD
            text c5,4;q2,3,0;q4,9,0;m3;k0; = 2
            ahead(-1, 0, 0) = BAD | ahead(2, 0, 0) = BAD | ahead(MIN, 0, 0) = BAD | ahead(MAX, 0, 0) = BAD
            ahead(1, 0, 0) = 0
            """);
        e.edge(18, "HOUR is 1 more.", """
            text c2,9;q1,9,0;k1; = 1
            41 times hours(24) = 0 | hours(15) = 0 | starve(0, 0) = 9
            ahead(0, 2, 1) = 0 | ahead(0, 3, 1) = 1 | ahead(0, 60, 1) = 9 | count(3) = 999
            """);
    }

    private static void later(Edges e) {
        e.edge(19, "AHEAD by n HOURS (0 to 60)", """
            text c3,9;q0,1,1;k1; = 1
            later(0, 0) = 0 | later(0, 1) = 1 | later(0, 2) = 2 | later(0, 3) = 1 | later(0, 4) = 0
            later(0, 59) = 1 | later(0, 60) = 0
            later(0, -1) = BAD | later(0, 61) = BAD | later(0, MIN) = BAD | later(0, MAX) = BAD
            """);
        e.edge(19, "RIDGE of an ANSWER (NONE: KNOWN)", """
            text c3,9;q2,1,2;k1; = 1
            fly(0) = {0} | later(0, 1) = 1 | later(0, 2) = NONE | later(0, 60) = NONE
            hours(2) = 1 | later(0, 0) = NONE
            """);
        e.edge(19, "AHEAD: RIDGE of an ANSWER; NONE.", SLOW + """
            fly(0) = {0} | hours(1) = 0 | later(2, 59) = 0 | later(2, 60) = NONE
            """);
        e.edge(19, "BAD.", """
            later(0, 0) = BAD
            text c3,9;q2,1,2;q1,1,0;k1; = 1
            later(-1, 0) = BAD | later(2, 0) = BAD | later(MIN, 0) = BAD | later(MAX, 0) = BAD | later(1, 0) = 1
            """);
    }

    private static void known(Edges e) {
        e.edge(20, "WHEN KNOWN; NONE.", """
            text c3,9;q2,1,2;q2,9,0;k1; = 1
            known(0) = NONE | fly(0) = {0} | known(0) = 2 | known(1) = NONE
            hours(1) = 0 | known(0) = 1 | hours(1) = 1 | known(0) = 0 | hours(1) = 1 | known(0) = 0
            """);
        e.edge(20, "behind how many HOURS (0 to 60) first; NONE.", SLOW + """
            fly(0) = {0} | known(0) = 7 | known(1) = 34 | known(2) = NONE | hours(1) = 0 | known(2) = 60
            """);
        e.edge(20, "BAD.", """
            known(0) = BAD
            text c3,9;q2,1,2;q2,9,0;k1; = 1
            known(-1) = BAD | known(2) = BAD | known(MIN) = BAD | known(MAX) = BAD
            """);
    }

    private static void lost(Edges e) {
        e.edge(21, "WHEN LOST; NONE.", """
            text c2,3;q1,9,0;k1; = 1
            lost(0) = NONE | fly(0) = {0} | lost(0) = 3 | hours(2) = 0 | lost(0) = 1 | hours(1) = 0 | lost(0) = 0
            hours(1) = 0 | lost(0) = 0
            """);
        e.edge(21, "behind how many HOURS (0 to 60) first; NONE.", """
            text c2,30;q0,1,0;q0,9,0;k0; = 1
            fly(0) = {0} | known(0) = 4 | known(1) = 31 | lost(0) = NONE | hours(1) = 0 | lost(0) = 60
            """);
        e.edge(21, "BAD.", """
            lost(0) = BAD
            text c2,3;q1,9,0;k1; = 1
            lost(-1) = BAD | lost(1) = BAD | lost(MIN) = BAD | lost(MAX) = BAD
            """);
    }

    private static void first(Edges e) {
        e.edge(22, "FIRST: the ANSWER that is not KNOWN now and is first, of several the least", """
            text c3,9;q1,1,0;q0,1,0;q1,1,2;k1;t2;t2; = 3
            fly(1) = {1} | first(0) = 0 | first(1) = 1 | fly(0) = {0 1} | first(0) = 0 | first(1) = 1
            lay(0, 2) = 1 | first(0) = 1 | first(1) = 1 | hours(1) = 1 | first(0) = 0 | first(1) = 1
            """);
        e.edge(22, "behind how many HOURS; NONE.", """
            text c2,9;q0,1,0;q1,9,0;k0; = 1
            first(0) = NONE | first(1) = NONE | fly(0) = {0} | first(0) = 0 | first(1) = 4 | hours(4) = 1
            first(0) = NONE | first(1) = NONE
            """);
        e.edge(22, "FIRST: which (what = 0), behind how many (1); NONE.", """
            text c2,9;q0,1,0;k0; = 1
            first(-1) = BAD | first(2) = BAD | first(MIN) = BAD | first(MAX) = BAD
            """);
        e.edge(22, "STATE: no CASTLE (ahead of BAD).", """
            first(0) = STATE | first(1) = STATE | first(2) = STATE | first(-1) = STATE
            """);
    }

    private static void flies(Edges e) {
        e.edge(23, "FLY for n HOURS (1 to 60)", SLOW + """
            hours(1) = 0 | flies(59, 1) = 11 | flies(60, 1) = 20 | flies(60, 0) = {0} | flies(1, 1) = 0
            flies(1, 0) = {}
            flies(0, 0) = BAD | flies(61, 0) = BAD | flies(-1, 1) = BAD | flies(MIN, 0) = BAD | flies(MAX, 0) = BAD
            """);
        e.edge(23, "of all sets of HAWKS on the WRIST, let go now", """
            text c3,1;q0,1,0;q1,2,0;q2,1,0;k1;t3;k1; = 3
            flies(1, 0) = {0 1} | flies(1, 1) = 3 | fly(1) = {1} | flies(1, 0) = {0} | flies(1, 1) = 3
            lay(0, 2) = 0 | fly(0) = {0 1} | hours(1) = 2 | stand(1) = {0} | lay(0, 0) = 2
            flies(1, 0) = {2} | flies(1, 1) = 3 | fly(2) = {1 2} | flies(1, 0) = {} | flies(1, 1) = 3
            """);
        e.edge(23, "that by which WORTH of all that is KNOWN behind them is most", """
            text c3,9;q0,1,0;q1,9,0;k1;m9; = 2
            flies(1, 0) = {0 1} | flies(1, 1) = 10 | fly(1) = {1} | flies(1, 0) = {0} | flies(1, 1) = 10
            hours(1) = 1 | flies(1, 0) = {} | flies(1, 1) = 1
            """);
        e.edge(23, "of several that of fewest HAWKS", """
            text c3,9;q1,2,0;q2,2,0;m2;m2;t9; = 3
            flies(2, 0) = {2} | flies(2, 1) = 4
            text c2,9;q1,9,0;k9;k9; = 2
            flies(60, 0) = {} | flies(60, 1) = 0
            """);
        e.edge(23, "of these the least: which (bits); that WORTH", """
            text c3,9;q1,2,0;b9;t9;t9; = 3
            flies(1, 0) = {1} | flies(1, 1) = 2
            text c2,9;q0,1,0;q0,2,0;q0,3,0;q0,4,0;q0,5,0;k1;k2;k3;k4;k5; = 5
            flies(1, 0) = {0 1 2 3 4} | flies(1, 1) = 15
            """);
    }

    private static void fliesRefused(Edges e) {
        e.edge(23, "FLY: which (what = 0), WORTH (1).", """
            text c2,9;q0,1,0;k1; = 1
            flies(1, -1) = BAD | flies(1, 2) = BAD | flies(1, MIN) = BAD | flies(1, MAX) = BAD | flies(1, 1) = 1
            """);
        e.edge(23, "BAD; STATE: no CASTLE (ahead of BAD).", """
            flies(1, 0) = STATE | flies(0, 0) = STATE | flies(61, 0) = STATE | flies(1, 2) = STATE
            """);
    }

    private static void waits(Edges e) {
        e.edge(24, "of all HOURS from now on (0 to 20 to wait), in which it is let go", """
            text c2,1;q0,7,0;k0; = 1
            waits(0, 0, 0) = NONE | waits(0, 0, 1) = NONE | hours(1) = 0 | waits(0, 0, 0) = 20 | waits(0, 0, 1) = 21
            """);
        e.edge(24, "that by which the ANSWER is KNOWN soonest", """
            text c4,1;q3,1,2;t9; = 1
            waits(0, 0, 0) = 1 | waits(0, 0, 1) = 2
            """);
        e.edge(24, "(behind 60 at most)", SLOW + """
            waits(0, 1, 1) = 34 | waits(0, 2, 0) = NONE | waits(0, 2, 1) = NONE
            hours(1) = 0 | waits(0, 2, 0) = 0 | waits(0, 2, 1) = 60
            """);
        e.edge(24, "of several the first: how many to wait; behind how many it is KNOWN; NONE", """
            text c9,9;q3,1,2;q8,9,0;k9;k9; = 2
            waits(0, 0, 0) = 0 | waits(0, 0, 1) = 3 | waits(0, 1, 0) = NONE | waits(0, 1, 1) = NONE
            fly(0) = {0} | waits(1, 0, 0) = 0 | waits(1, 0, 1) = 3 | hours(3) = 1
            waits(1, 0, 0) = 0 | waits(1, 0, 1) = 0
            """);
    }

    private static void waitsRefused(Edges e) {
        e.edge(24, "WAIT: how many (what = 0), behind how many (1); NONE.", """
            text c2,9;q0,1,0;k1; = 1
            waits(0, 0, -1) = BAD | waits(0, 0, 2) = BAD | waits(0, 0, MIN) = BAD | waits(0, 0, MAX) = BAD
            """);
        e.edge(24, "BAD; STATE", """
            waits(0, 0, 0) = BAD
            text c2,9;q0,1,0;k1; = 1
            waits(-1, 0, 0) = BAD | waits(1, 0, 0) = BAD | waits(0, -1, 0) = BAD | waits(0, 1, 0) = BAD
            fly(0) = {0} | waits(0, 0, 2) = BAD | waits(0, 1, 0) = BAD
            """);
        e.edge(24, "STATE: the HAWK is not on the WRIST.", """
            text c2,1;q0,9,0;k1; = 1
            waits(0, 0, 0) = NONE | fly(0) = {0} | waits(0, 0, 0) = STATE | hours(1) = 0 | hawk(0, 2) = 2
            waits(0, 0, 0) = STATE
            """);
    }

    private static void starves(Edges e) {
        e.edge(25, "n HOURS (1 to 30)", """
            text c3,30;q2,9,2;k0; = 1
            fly(0) = {0} | starves(0, 0, 1) = {} | starves(0, 0, 2) = {9}
            starves(0, 0, 29) = {1 2 3 4 5 6 7 8 9} | starves(0, 0, 30) = {0 1 2 3 4 5 6 7 8 9}
            starves(0, 0, 0) = BAD | starves(0, 0, 31) = BAD | starves(0, 0, -1) = BAD
            starves(0, 0, MIN) = BAD | starves(0, 0, MAX) = BAD
            """);
        e.edge(25, "STARVE.", """
            text c2,9;q0,4,0;q0,6,0;k1;p1; = 2
            starves(0, 0, 30) = {} | fly(0) = {0} | starves(0, 0, 1) = {4 5} | starves(0, 1, 1) = {6 7 8 9}
            starves(1, 1, 1) = {} | starve(0, 4) = 1 | starves(1, 0, 1) = {0 1 2 3 4 5 6 7 8 9} | hours(1) = 4
            starves(0, 0, 1) = {0 1 2 3 4 5 6 7 8 9} | fly(1) = {0 1} | starves(1, 1, 1) = {1 2 3 4 5 6 7 8 9}
            """);
        e.edge(25, "HUNGERS (0 to 9, bits) of it now by which the ANSWER is KNOWN behind them", """
            text c2,9;q0,9,0;q0,1,0;k5; = 1
            fly(0) = {0} | starves(0, 0, 1) = {9} | starves(0, 1, 1) = {1 2 3 4 5 6 7 8} | hawk(0, 0) = 5
            """);
        e.edge(25, "BAD; STATE", """
            starves(0, 0, 1) = BAD
            text c2,1;q0,9,0;k1; = 1
            starves(-1, 0, 1) = BAD | starves(1, 0, 1) = BAD | starves(0, -1, 1) = BAD | starves(0, 1, 1) = BAD
            fly(0) = {0} | hours(1) = 0 | hawk(0, 2) = 2 | starves(0, 0, 0) = BAD | starves(0, 1, 1) = BAD
            """);
        e.edge(25, "STATE: the HAWK is LOST.", """
            text c2,1;q0,9,0;k1; = 1
            starves(0, 0, 1) = {} | fly(0) = {0} | starves(0, 0, 1) = {9} | hours(1) = 0 | starves(0, 0, 1) = STATE
            text c2,1;q0,9,0;q1,9,0;k1;k9; = 2
            fly(0) = {0} | hours(1) = 0 | starves(0, 1, 1) = STATE | fly(1) = {1} | starves(1, 0, 1) = {9}
            """);
    }

    private static void falconers(Edges e) {
        e.edge(26, "TURNS of two falconers, n in all (0 to 4)", """
            text c2,9;q0,1,0;q0,2,0;q0,3,0;q0,4,0;q0,5,0;k5;k4;k3;k2;k1; = 5
            falconers(0, 1) = 0 | falconers(1, 1) = 5 | falconers(2, 1) = 1 | falconers(3, 1) = 4
            falconers(4, 1) = 2
            falconers(-1, 1) = BAD | falconers(5, 1) = BAD | falconers(MIN, 1) = BAD | falconers(MAX, 1) = BAD
            """);
        e.edge(26, "m HOURS (1 to 20)", """
            text c2,30;q0,7,0;k0; = 1
            fly(0) = {0} | hours(2) = 0 | falconers(0, 1) = 0 | falconers(0, 19) = 0 | falconers(0, 20) = 7
            falconers(0, 0) = BAD | falconers(0, 21) = BAD | falconers(0, -1) = BAD
            falconers(0, MIN) = BAD | falconers(0, MAX) = BAD
            """);
        e.edge(26, "that is on the WRIST, or none", """
            text c3,9;q0,1,0;q1,9,0;k1;m9; = 2
            fly(1) = {1} | falconers(0, 1) = -1 | falconers(1, 1) = -1
            text c3,9;q0,1,0;q1,9,0;k0;k1;m9; = 3
            fly(2) = {2} | falconers(0, 1) = 1 | falconers(2, 1) = 1
            text c3,1;q1,1,0;k1; = 1
            fly(0) = {0} | hours(1) = 0 | hawk(0, 2) = 2 | lay(0, 0) = 1 | falconers(4, 20) = 0
            """);
        e.edge(26, "the one lets go a HAWK of an even number", """
            text c2,9;q0,1,0;q0,2,0;q0,3,0;q0,4,0;q0,5,0;k1;k2;k3;k4;k5; = 5
            falconers(1, 1) = 5 | falconers(2, 1) = 1 | falconers(3, 1) = 4 | falconers(4, 1) = 2
            """);
        e.edge(26, "the first wants it great, the second little: what comes of it", """
            text c3,9;q0,1,0;q1,9,0;k1;m9; = 2
            falconers(1, 1) = 1 | falconers(2, 1) = -1 | falconers(3, 1) = -1
            """);
        e.edge(26, "then the other one of an odd number, and so on, all now", """
            text c2,9;q0,5,0;k4;k5; = 2
            falconers(1, 1) = 0 | falconers(2, 1) = -5 | falconers(3, 1) = -5
            text c2,9;q0,5,0;k5;k5; = 2
            falconers(1, 1) = 5 | falconers(2, 1) = 5 | falconers(4, 1) = 5
            """);
        e.edge(26, "WORTH of all that HAWKS of even numbers TAKE in them less that of what odd ones do", """
            text c2,9;q0,9,0;q0,8,0;q0,7,0;k9;k8; = 2
            fly(0) = {0} | hours(1) = 9 | falconers(0, 20) = 0 | fly(1) = {0 1} | falconers(0, 1) = -8
            """);
    }

    private static void falconersRefused(Edges e) {
        e.edge(26, "TURNS (may be below 0).", """
            text c2,9;q0,9,0;b0;k9; = 2
            falconers(1, 1) = 0 | falconers(2, 1) = -9
            """);
        e.edge(26, "BAD; STATE: no CASTLE (ahead of BAD).", """
            falconers(0, 1) = STATE | falconers(-1, 1) = STATE | falconers(5, 1) = STATE
            falconers(0, 0) = STATE | falconers(0, 21) = STATE
            """);
    }

    private static void nearest(Edges e) {
        e.edge(27,
            "NEAREST of a RIDGE: the ANSWER that is not KNOWN and nearest to it, of several the least; how far; "
            + "NONE.", """
            text c6,9;q4,1,0;q0,1,0;q2,1,0;q2,1,0;k9; = 1
            nearest(0, 0) = 1 | nearest(0, 1) = 0 | nearest(1, 0) = 1 | nearest(1, 1) = 1 | nearest(2, 0) = 2
            nearest(3, 0) = 0 | nearest(3, 1) = 1 | nearest(5, 0) = 0 | nearest(5, 1) = 1
            fly(0) = {0} | hours(1) = 1 | nearest(0, 0) = 2 | nearest(0, 1) = 2
            text c2,9;q0,1,0;k9; = 1
            fly(0) = {0} | hours(1) = 1 | nearest(0, 0) = NONE | nearest(0, 1) = NONE | nearest(1, 1) = NONE
            """);
        e.edge(27, "NEAREST: which (what = 0), how far (1); NONE.", """
            text c9,9;q0,1,0;k9; = 1
            nearest(8, 0) = 0 | nearest(8, 1) = 8
            nearest(0, -1) = BAD | nearest(0, 2) = BAD | nearest(0, MIN) = BAD | nearest(0, MAX) = BAD
            """);
        e.edge(27, "BAD: no such RIDGE, too.", """
            nearest(0, 0) = BAD | nearest(0, 1) = BAD
            text c3,9;q0,1,0;k9; = 1
            nearest(2, 1) = 2 | nearest(3, 1) = BAD | nearest(-1, 1) = BAD | nearest(MIN, 0) = BAD
            nearest(MAX, 0) = BAD
            fly(0) = {0} | hours(1) = 1 | nearest(3, 0) = BAD | nearest(2, 0) = NONE
            """);
    }

    private static void moult(Edges e) {
        e.edge(30, "MOULT by p of 10 (0 to 10)", """
            text c2,9;q0,1,0;k1; = 1
            fly(0) = {0} | moult(0, 1, 0, 0) = 1 | moult(0, 1, 0, 1) = 1 | moult(0, 1, 10, 0) = 0
            moult(0, 1, 10, 1) = 1
            moult(0, 1, 1, 0) = 9 | moult(0, 1, 1, 1) = 10 | moult(0, 1, 9, 0) = 1 | moult(0, 1, 9, 1) = 10
            moult(0, 1, -1, 0) = BAD | moult(0, 1, 11, 0) = BAD | moult(0, 1, MIN, 1) = BAD
            moult(0, 1, MAX, 1) = BAD
            """);
        e.edge(30, "each HAWK that is FLOWN is called back now in p of 10 cases, apart", """
            text c2,1;q0,1,0;q1,1,0;k1;k1;k1;k0; = 4
            fly(0) = {0} | fly(1) = {0 1} | moult(0, 1, 3, 0) = 91 | moult(0, 1, 3, 1) = 100
            fly(2) = {0 1 2} | moult(0, 1, 3, 0) = 973 | moult(0, 1, 3, 1) = 1000
            fly(3) = {0 1 2 3} | moult(0, 1, 3, 0) = 973 | moult(0, 1, 3, 1) = 1000
            text c2,9;q0,1,0;k1;k1;k1;k1;k1; = 5
            fly(0) = {0} | fly(1) = {0 1} | fly(2) = {0 1 2} | fly(3) = {0 1 2 3} | fly(4) = {0 1 2 3 4}
            moult(0, 1, 1, 0) = 99999 | moult(0, 1, 1, 1) = 100000 | moult(0, 1, 5, 0) = 31 | moult(0, 1, 5, 1) = 32
            moult(0, 1, 9, 0) = 40951 | moult(0, 1, 9, 1) = 100000
            """);
        e.edge(30, "how likely an ANSWER is KNOWN behind n HOURS (0 to 60): a fraction", SLOW + """
            fly(0) = {0} | hours(1) = 0 | moult(2, 59, 3, 0) = 0 | moult(2, 59, 3, 1) = 1
            moult(2, 60, 3, 0) = 7 | moult(2, 60, 3, 1) = 10 | moult(0, 0, 3, 0) = 0 | moult(0, 0, 3, 1) = 1
            moult(0, -1, 3, 0) = BAD | moult(0, 61, 3, 0) = BAD | moult(0, MIN, 3, 1) = BAD
            moult(0, MAX, 3, 1) = BAD
            hours(6) = 2 | moult(0, 0, 10, 0) = 1 | moult(0, 0, 10, 1) = 1
            """);
        e.edge(30, "fractions, told as two numbers in lowest terms (0 is 0 by 1)", """
            text c2,9;q0,1,0;q1,1,0;k1;k1; = 2
            moult(0, 1, 4, 0) = 0 | moult(0, 1, 4, 1) = 1 | fly(0) = {0} | moult(0, 1, 4, 0) = 3
            moult(0, 1, 4, 1) = 5
            moult(0, 1, 5, 0) = 1 | moult(0, 1, 5, 1) = 2 | moult(1, 1, 4, 0) = 0 | moult(1, 1, 4, 1) = 1
            fly(1) = {0 1} | moult(0, 1, 4, 0) = 21 | moult(0, 1, 4, 1) = 25 | moult(1, 60, 4, 0) = 0
            moult(1, 60, 4, 1) = 1
            """);
    }

    private static void moultRefused(Edges e) {
        e.edge(30, "MOULT: above (what = 0), below (1).", """
            text c2,9;q0,1,0;k1; = 1
            moult(0, 1, 1, -1) = BAD | moult(0, 1, 1, 2) = BAD | moult(0, 1, 1, MIN) = BAD | moult(0, 1, 1, MAX) = BAD
            """);
        e.edge(30, "BAD.", """
            moult(0, 0, 0, 0) = BAD | moult(0, 0, 0, 1) = BAD
            text c2,9;q0,1,0;k1; = 1
            moult(-1, 0, 0, 0) = BAD | moult(1, 0, 0, 0) = BAD | moult(MIN, 0, 0, 1) = BAD | moult(MAX, 0, 0, 1) = BAD
            """);
    }

    private static void drawn(Edges e) {
        e.edge(31, "SEASONS of n HOURS (0 to 60) by a SEED (X at first)", """
            text c2,20;q0,9,0;q0,9,0;q0,8,0;q0,7,0;q0,5,0;q0,6,0;k0;k0;k0;k0;k0; = 5
            drawn(59, 500, 0) = 36 | drawn(59, 500, 1) = {2 3 4} | drawn(60, 500, 0) = 44
            drawn(60, 500, 1) = {1 2 3 4}
            drawn(0, 500, 0) = 0 | drawn(0, 500, 1) = {}
            drawn(-1, 500, 0) = BAD | drawn(61, 500, 0) = BAD | drawn(MIN, 500, 1) = BAD | drawn(MAX, 500, 1) = BAD
            """);
        // X of seed 1: 16807, 282475249, 1622650073, all odd, then 984943658, which by 3 leaves 2.
        e.edge(31, "ahead of each X becomes the rest of (X times 16807) by 2147483647", """
            text c2,9;q0,9,0;q0,1,0;k1;k1;k9; = 3
            drawn(3, 1, 0) = 0 | drawn(4, 1, 0) = 9
            """);
        // X of seed 999999: 1774597664, by 3 leaves 2, then 1410049312, by 3 leaves 1.
        e.edge(31, "the HAWK that is the rest of X by how many there are", """
            text c2,9;q0,9,0;q0,1,0;q0,2,0;k1;k2;k9; = 3
            drawn(1, 999999, 0) = 9 | drawn(2, 999999, 0) = 11
            """);
        // X of seed 10 is 168070, of seed 2 33614, of seed 5 84035, of seed 1 16807.
        e.edge(31, "is let go, if it is on the WRIST and X by 2 leaves 0", """
            text c2,1;q0,9,0;k1; = 1
            drawn(1, 2, 1) = {0} | drawn(1, 10, 1) = {0} | drawn(1, 5, 1) = {} | drawn(1, 1, 1) = {}
            """);
        e.edge(31, "called back, if it was FLOWN ahead of that and X by 5 leaves 0", """
            text c2,1;q0,9,0;k1; = 1
            fly(0) = {0} | drawn(1, 10, 1) = {} | drawn(1, 5, 1) = {} | drawn(1, 2, 1) = {0} | drawn(1, 1, 1) = {0}
            hours(1) = 0 | drawn(60, 10, 1) = {0}
            """);
        e.edge(31, "then the HOUR: WORTH of all that is KNOWN then; which HAWKS are LOST then (bits)", """
            text c2,1;q0,1,0;q1,9,0;k1;k9; = 2
            fly(1) = {1} | hours(1) = 1 | drawn(0, 7, 0) = 1 | drawn(0, 7, 1) = {} | hours(1) = 1
            drawn(0, 7, 0) = 1 | drawn(0, 7, 1) = {1}
            """);
    }

    private static void drawnRefused(Edges e) {
        e.edge(31, "SEASONS by a SEED (1 to 999999)", """
            text c2,9;q0,9,0;k9; = 1
            drawn(1, 999999, 0) = 9 | drawn(1, 1, 0) = 0 | drawn(1, 2, 0) = 9
            drawn(1, 0, 0) = BAD | drawn(1, 1000000, 0) = BAD | drawn(1, -1, 0) = BAD
            drawn(1, MIN, 0) = BAD | drawn(1, MAX, 0) = BAD
            """);
        e.edge(31, "WORTH (what = 0), LOST (1).", """
            text c2,9;q0,9,0;k9; = 1
            drawn(1, 2, -1) = BAD | drawn(1, 2, 2) = BAD | drawn(1, 2, MIN) = BAD | drawn(1, 2, MAX) = BAD
            """);
        e.edge(31, "BAD; STATE: no CASTLE (ahead of BAD).", """
            drawn(0, 1, 0) = STATE | drawn(-1, 1, 0) = STATE | drawn(61, 1, 0) = STATE
            drawn(0, 0, 0) = STATE | drawn(0, 1000000, 0) = STATE | drawn(0, 1, 2) = STATE
            """);
    }
}
