/** Sentences about acts, their undoing, and how all stands: promises 9 and 11 to 17. */
final class ActEdges {
    private ActEdges() {
    }

    static void tell(Edges e) {
        undo(e);
        undoneActs(e);
        fly(e);
        call(e);
        starve(e);
        lay(e);
        hawk(e);
        hawkWhatItWouldDo(e);
        answer(e);
        stand(e);
    }

    private static void undo(Edges e) {
        e.edge(9, "STATE: none.", """
            undo() = STATE
            text c2,9;q1,9,0;k1; = 1
            undo() = STATE | starve(0, 2) = 1 | undo() = 0 | undo() = STATE | hawk(0, 0) = 1
            """);
        e.edge(9, "The latest ACT is undone: how many can be undone yet.", """
            text c2,9;q1,9,0;k1; = 1
            starve(0, 2) = 1 | starve(0, 3) = 2 | starve(0, 4) = 3
            undo() = 2 | hawk(0, 0) = 3 | undo() = 1 | hawk(0, 0) = 2
            starve(0, 7) = 2 | count(6) = 2 | undo() = 1 | hawk(0, 0) = 2 | undo() = 0 | hawk(0, 0) = 1
            """);
        e.edge(9, "(24 at most are kept", """
            text c2,9;q1,9,0;k1; = 1
            starve(0, 5) = 1 | hours(23) = 0 | count(6) = 24
            23 times undo() | count(3) = 0 | hawk(0, 0) = 5 | undo() = 0 | hawk(0, 0) = 1 | undo() = STATE
            """);
        e.edge(9, "of more the oldest is forgotten", """
            text c2,9;q1,9,0;k1; = 1
            starve(0, 5) = 1 | hours(23) = 0 | fly(0) = {0} | count(6) = 24
            undo() = 23 | hawk(0, 2) = 0 | 22 times undo() | undo() = 0 | undo() = STATE
            count(3) = 0 | hawk(0, 0) = 5 | count(6) = 0
            """);
        e.edge(9, "each can be undone, the latest first", """
            text c4,9;q3,9,0;t1; = 1
            fly(0) = {0} | hours(1) = 0 | starve(0, 4) = 1 | lay(0, 2) = 3 | call(0) = {} | count(6) = 5
            undo() = 4 | hawk(0, 1) = 1 | undo() = 3 | answer(0, 0) = 3 | undo() = 2 | hawk(0, 0) = 1
            undo() = 1 | count(3) = 0 | hawk(0, 1) = 0 | hawk(0, 2) = 1 | undo() = 0 | hawk(0, 2) = 0
            """);
        e.edge(9, "What is refused, or found, changes nothing but status().", """
            text c2,1;q1,9,0;k1;k1; = 2
            fly(0) = {0} | hours(1) = 0 | count(6) = 2
            fly(0) = STATE | fly(2) = BAD | call(1) = STATE | call(2) = BAD | starve(0, 5) = STATE
            starve(1, 10) = BAD
            lay(0, 1) = STATE | lay(0, 2) = BAD | hours(25) = BAD | image(2) = BAD | restore(0) = STATE
            count(6) = 2 | undo() = 1 | hawk(0, 2) = 1
            """);
    }

    private static void undoneActs(Edges e) {
        e.edge(9, "an HOUR; a HAWK", """
            text c3,1;q2,1,1;q0,9,0;k1;k9; = 2
            fly(0) = {0} | fly(1) = {0 1} | hours(1) = 9
            answer(0, 0) = 1 | answer(0, 2) = 2 | stand(1) = {0} | stand(2) = {1} | hawk(1, 0) = 0
            undo() = 2
            answer(0, 0) = 2 | answer(0, 2) = 1 | stand(0) = {0 1} | stand(1) = {} | stand(2) = {} | stand(3) = 0
            hawk(1, 0) = 9 | hawk(0, 3) = 0 | count(3) = 0 | hours(1) = 9
            """);
        e.edge(9, "a HAWK on the WRIST is let go (FLOWN, on RIDGE 0, ALOFT 0)", """
            text c2,9;q1,9,0;k1; = 1
            fly(0) = {0} | undo() = 0 | stand(0) = {} | hawk(0, 2) = 0
            """);
        e.edge(9, "one that is FLOWN is called back (on the WRIST)", """
            text c4,9;q3,9,0;t1; = 1
            fly(0) = {0} | hours(2) = 0 | call(0) = {} | undo() = 3
            stand(0) = {0} | hawk(0, 1) = 2 | hawk(0, 2) = 1 | hawk(0, 3) = 2
            """);
        e.edge(9, "HUNGER of one that is not LOST is another", """
            text c2,9;q1,9,0;k1; = 1
            starve(0, 9) = 1 | undo() = 0 | hawk(0, 0) = 1
            """);
        e.edge(9, "an ANSWER that is not KNOWN is put on a RIDGE", """
            text c4,9;q2,9,1;k1; = 1
            lay(0, 0) = 2 | undo() = 0 | answer(0, 0) = 2 | answer(0, 2) = 1
            """);
    }

    private static void fly(Edges e) {
        e.edge(11, "Let go: which are FLOWN (bits).", """
            text c2,9;q1,9,0;m1;p1;k1;t1;b1; = 5
            fly(4) = {4} | fly(0) = {0 4} | fly(1) = {0 1 4} | fly(3) = {0 1 3 4} | fly(2) = {0 1 2 3 4}
            """);
        e.edge(11, "BAD; STATE", """
            fly(0) = BAD
            text c2,9;q1,9,0;m1;p1; = 2
            fly(-1) = BAD | fly(2) = BAD | fly(5) = BAD | fly(MIN) = BAD | fly(MAX) = BAD | stand(0) = {}
            """);
        e.edge(11, "STATE: it is not on the WRIST.", """
            text c2,2;q1,9,0;k1; = 1
            fly(0) = {0} | fly(0) = STATE | hours(1) = 0 | fly(0) = STATE | hawk(0, 3) = 1
            call(0) = {} | fly(0) = {0} | hours(2) = 0 | hawk(0, 2) = 2 | fly(0) = STATE | stand(0) = {}
            """);
        e.edge(11, "(FLOWN, on RIDGE 0, ALOFT 0)", """
            text c4,9;q3,9,0;t1; = 1
            fly(0) = {0} | hours(2) = 0 | call(0) = {} | fly(0) = {0}
            hawk(0, 1) = 0 | hawk(0, 2) = 1 | hawk(0, 3) = 0
            """);
        e.edge(11,
            "A HAWK is on the WRIST (on RIDGE 0), FLOWN (on a RIDGE, so many HOURS ALOFT), or LOST (for good).", """
            text c4,3;q3,9,0;t1; = 1
            hawk(0, 1) = 0 | hawk(0, 2) = 0 | fly(0) = {0} | hours(2) = 0
            hawk(0, 1) = 2 | hawk(0, 2) = 1 | hawk(0, 3) = 2 | hours(1) = 0
            hawk(0, 2) = 2 | hours(24) = 0 | hawk(0, 2) = 2 | hawk(0, 1) = 3 | hawk(0, 0) = 1
            fly(0) = STATE | call(0) = STATE | starve(0, 5) = STATE
            """);
    }

    private static void call(Edges e) {
        e.edge(12, "Called back: which are FLOWN (bits).", """
            text c4,9;q3,9,0;t1;t1;t1; = 3
            fly(0) = {0} | fly(1) = {0 1} | fly(2) = {0 1 2} | hours(2) = 0
            call(1) = {0 2} | hawk(1, 1) = 0 | hawk(1, 2) = 0 | hawk(1, 3) = 0 | call(0) = {2} | call(2) = {}
            """);
        e.edge(12, "BAD; STATE", """
            call(0) = BAD
            text c2,9;q1,9,0;m1;p1; = 2
            fly(0) = {0} | fly(1) = {0 1}
            call(-1) = BAD | call(2) = BAD | call(5) = BAD | call(MIN) = BAD | call(MAX) = BAD | stand(0) = {0 1}
            """);
        e.edge(12, "STATE: it is not FLOWN.", """
            text c2,1;q1,9,0;k1; = 1
            call(0) = STATE | fly(0) = {0} | call(0) = {} | call(0) = STATE | fly(0) = {0} | hours(1) = 0
            hawk(0, 2) = 2 | call(0) = STATE | hawk(0, 2) = 2
            """);
    }

    private static void starve(Edges e) {
        e.edge(13, "HUNGER (0 to 9): what it was.", """
            text c2,9;q1,9,0;k1; = 1
            starve(0, 0) = 1 | starve(0, 9) = 0 | hawk(0, 0) = 9 | fly(0) = {0} | starve(0, 4) = 9 | hawk(0, 0) = 4
            starve(0, -1) = BAD | starve(0, 10) = BAD | starve(0, MIN) = BAD | starve(0, MAX) = BAD | hawk(0, 0) = 4
            """);
        e.edge(13, "BAD; STATE", """
            starve(0, 1) = BAD
            text c2,1;q1,9,0;k1;k2; = 2
            starve(-1, 5) = BAD | starve(2, 5) = BAD | starve(MIN, 5) = BAD | starve(MAX, 5) = BAD
            fly(0) = {0} | hours(1) = 0 | starve(0, 10) = BAD | starve(0, -1) = BAD
            """);
        e.edge(13, "STATE: it is LOST.", """
            text c2,1;q1,9,0;k1;k2; = 2
            fly(0) = {0} | hours(1) = 0 | starve(0, 5) = STATE | hawk(0, 0) = 1 | starve(1, 5) = 2
            """);
    }

    private static void lay(Edges e) {
        e.edge(14, "An ANSWER is put on a RIDGE: where it was.", """
            text c4,9;q2,1,1;q0,1,2;k1; = 1
            lay(0, 0) = 2 | lay(0, 3) = 0 | answer(0, 0) = 3 | answer(0, 2) = 1
            lay(1, 3) = 0 | answer(1, 0) = 3 | answer(1, 2) = 2
            """);
        e.edge(14, "BAD; STATE", """
            lay(0, 0) = BAD
            text c4,9;q2,1,1;k1; = 1
            lay(0, -1) = BAD | lay(0, 4) = BAD | lay(0, MIN) = BAD | lay(0, MAX) = BAD
            lay(-1, 0) = BAD | lay(1, 0) = BAD | lay(6, 0) = BAD | lay(MAX, 0) = BAD | lay(1, 2) = BAD
            answer(0, 0) = 2
            """);
        e.edge(14, "STATE: it is there, or KNOWN.", """
            text c4,9;q0,1,0;q3,1,0;k1; = 1
            lay(0, 0) = STATE | lay(1, 3) = STATE | fly(0) = {0} | hours(1) = 1
            lay(0, 0) = STATE | lay(0, 3) = STATE | lay(0, 4) = BAD | answer(0, 0) = 0 | lay(1, 2) = 3
            """);
    }

    private static void hawk(Edges e) {
        e.edge(15, "0 HUNGER", """
            text c2,9;q1,9,0;k0;t9; = 2
            hawk(0, 0) = 0 | hawk(1, 0) = 9
            """);
        e.edge(15, "1 the RIDGE (LOST: where)", """
            text c5,3;q4,9,0;m1; = 1
            fly(0) = {0} | hours(3) = 0 | hawk(0, 2) = 2 | hawk(0, 1) = 3 | hours(5) = 0 | hawk(0, 1) = 3
            """);
        e.edge(15, "2 how it is (0 on the WRIST, 1 FLOWN, 2 LOST)", """
            text c2,2;q1,9,0;k1; = 1
            hawk(0, 2) = 0 | fly(0) = {0} | hawk(0, 2) = 1 | hours(1) = 0 | hawk(0, 2) = 1 | hours(1) = 0
            hawk(0, 2) = 2
            """);
        e.edge(15, "3 ALOFT (0: not FLOWN)", """
            text c2,3;q1,9,0;k1; = 1
            hours(2) = 0 | hawk(0, 3) = 0 | fly(0) = {0} | hawk(0, 3) = 0 | hours(2) = 0 | hawk(0, 3) = 2
            call(0) = {} | hawk(0, 3) = 0 | fly(0) = {0} | hours(3) = 0 | hawk(0, 2) = 2 | hawk(0, 3) = 0
            """);
        e.edge(15, "BAD.", """
            hawk(0, 0) = BAD
            text c2,9;q1,9,0;k1;k1; = 2
            hawk(-1, 0) = BAD | hawk(2, 0) = BAD | hawk(MIN, 0) = BAD | hawk(MAX, 0) = BAD
            hawk(0, -1) = BAD | hawk(0, 6) = BAD | hawk(0, MIN) = BAD | hawk(0, MAX) = BAD | hawk(1, 5) = NONE
            """);
    }

    private static void hawkWhatItWouldDo(Edges e) {
        e.edge(15, "4 the ANSWER that it GOES FOR as all are now (a merlin, a peregrine; NONE)", """
            text c4,9;q0,1,0;q2,5,0;m9;p0;k9;t9;b9; = 5
            hawk(0, 4) = 0 | hawk(1, 4) = 1 | hawk(2, 4) = NONE | hawk(3, 4) = NONE | hawk(4, 4) = NONE
            fly(0) = {0} | fly(2) = {0 2} | fly(3) = {0 2 3} | fly(4) = {0 2 3 4}
            hawk(2, 4) = NONE | hawk(3, 4) = NONE | hawk(4, 4) = NONE
            hours(2) = 6 | stand(2) = {0 1} | hawk(0, 4) = NONE | hawk(1, 4) = NONE
            """);
        e.edge(15, "nearest, of several the least number", """
            text c9,9;q3,1,0;q2,1,0;q2,9,0;m1; = 1
            hawk(0, 4) = 1 | lay(0, 1) = 3 | hawk(0, 4) = 0 | lay(0, 2) = 1 | hawk(0, 4) = 0
            """);
        e.edge(15, "that of greatest WORTH, of several the nearest, then the least number", """
            text c9,9;q1,8,0;q8,9,0;q7,9,0;q7,9,0;p1; = 1
            hawk(0, 4) = 2 | lay(1, 6) = 8 | hawk(0, 4) = 1 | lay(1, 7) = 6 | hawk(0, 4) = 1
            """);
        e.edge(15, "5 the ANSWER that it would TAKE where it is (NONE;", """
            text c2,9;q0,3,0;q0,4,0;q0,4,0;q1,2,0;k4;m2;t4;b5;p1; = 5
            fly(0) = {0} | fly(1) = {0 1} | fly(2) = {0 1 2} | fly(3) = {0 1 2 3} | fly(4) = {0 1 2 3 4}
            hawk(0, 5) = 1 | hawk(1, 5) = NONE | hawk(2, 5) = 0 | hawk(3, 5) = 1 | hawk(4, 5) = 1
            lay(0, 1) = 0 | hawk(2, 5) = NONE | lay(1, 1) = 0 | hawk(0, 5) = 2
            """);
        e.edge(15, "NONE, too, without HUNGER, on the WRIST, LOST)", """
            text c2,1;q0,1,0;q1,9,0;p0;k9; = 2
            hawk(1, 5) = NONE | fly(0) = {0} | hawk(0, 5) = NONE | starve(0, 1) = 0 | hawk(0, 5) = 0
            fly(1) = {0 1} | hawk(1, 5) = 0 | call(1) = {0} | hawk(1, 5) = NONE
            lay(0, 1) = 0 | fly(1) = {0 1} | hours(1) = 9 | hawk(1, 2) = 2 | hawk(1, 1) = 0
            lay(0, 0) = 1 | hawk(1, 0) = 9 | hawk(1, 5) = NONE
            """);
    }

    private static void answer(Edges e) {
        e.edge(16, "0 the RIDGE (KNOWN: where)", """
            text c3,9;q1,1,2;k1; = 1
            answer(0, 0) = 1 | fly(0) = {0} | hours(1) = 1 | answer(0, 0) = 0 | hours(4) = 1 | answer(0, 0) = 0
            """);
        e.edge(16, "1 WORTH, 2 DRIFT, 3 whether KNOWN (1, 0)", """
            text c3,9;q1,1,2;q2,9,0;k1; = 1
            answer(0, 1) = 1 | answer(1, 1) = 9 | answer(0, 2) = 2 | answer(1, 2) = 0 | answer(0, 3) = 0
            fly(0) = {0} | hours(1) = 1 | answer(0, 3) = 1 | answer(1, 3) = 0 | answer(0, 2) = 2 | answer(0, 1) = 1
            """);
        e.edge(16, "BAD.", """
            answer(0, 0) = BAD
            text c3,9;q1,1,2;q2,9,0;k1; = 1
            answer(-1, 0) = BAD | answer(2, 0) = BAD | answer(MIN, 0) = BAD | answer(MAX, 0) = BAD
            answer(0, -1) = BAD | answer(0, 4) = BAD | answer(0, MIN) = BAD | answer(0, MAX) = BAD | answer(1, 3) = 0
            """);
        e.edge(16, "An ANSWER is on its RIDGE till it is KNOWN (for good).", """
            text c3,9;q1,1,2;k1;m9; = 2
            fly(0) = {0} | hours(1) = 1 | answer(0, 3) = 1 | lay(0, 2) = STATE | call(0) = {} | fly(1) = {1}
            hours(24) = 1 | answer(0, 0) = 0 | answer(0, 3) = 1 | stand(2) = {0}
            """);
    }

    private static void stand(Edges e) {
        e.edge(17, "0 which are FLOWN (bits), 1 LOST (bits), 2 KNOWN (bits)", """
            text c2,1;q0,1,0;q1,9,0;q0,2,0;q0,1,0;q1,9,0;q0,3,0;k3;k0;k1;k0;k2; = 5
            stand(0) = {} | stand(1) = {} | stand(2) = {}
            fly(0) = {0} | fly(1) = {0 1} | fly(3) = {0 1 3} | fly(4) = {0 1 3 4}
            hours(1) = 5 | stand(0) = {0 4} | stand(1) = {1 3} | stand(2) = {2 5}
            """);
        e.edge(17, "3 WORTH of all that is KNOWN, 4 RIDGES, 5 LONG", """
            text c9,30;q0,9,0;q0,9,0;q0,9,0;q0,9,0;q0,9,0;q0,9,0;k9;k9;k9;k9;k9; = 5
            stand(3) = 0 | stand(4) = 9 | stand(5) = 30
            fly(0) = {0} | fly(1) = {0 1} | fly(2) = {0 1 2} | fly(3) = {0 1 2 3} | fly(4) = {0 1 2 3 4}
            hours(1) = 45 | stand(3) = 45 | starve(0, 9) = 0 | hours(1) = 54 | stand(3) = 54
            stand(2) = {0 1 2 3 4 5}
            """);
        e.edge(17, "BAD; STATE", """
            text c2,9;q1,9,0;k1; = 1
            stand(-1) = BAD | stand(6) = BAD | stand(MIN) = BAD | stand(MAX) = BAD | stand(5) = 9
            """);
        e.edge(17, "STATE: no CASTLE (ahead of BAD).", """
            stand(0) = STATE | stand(5) = STATE | stand(6) = STATE | stand(-1) = STATE
            """);
    }
}
