/** Promises 18 to 31: what is foretold, which changes nothing. */
public final class ForetoldTest {
    private static final Due due = new Due("ForetoldTest");
    private static final int NONE = HawkAsks.NONE, BAD = HawkAsks.BAD, STATE = HawkAsks.STATE;
    private static final int NULL = -1000011, PLACE = -1000012;

    public static void main(String[] args) {
        withoutCastle();
        aheadAndLater();
        knownAndLost();
        firstOfAll();
        flights();
        waiting();
        starving();
        turns();
        nearest();
        bellsOfHawks();
        bellsOfAnswers();
        bellsRefused();
        moulting();
        seasons();
        nothingChanges();
        due.end();
    }

    private static void withoutCastle() {
        HawkAsks x = new HawkAsks();
        due.is("ahead(0,0,0)", x.ahead(0, 0, 0), BAD);
        due.is("later(0,0)", x.later(0, 0), BAD);
        due.is("known(0)", x.known(0), BAD);
        due.is("lost(0)", x.lost(0), BAD);
        due.is("first(5): STATE goes ahead", x.first(5), STATE);
        due.is("flies(0,5): STATE goes ahead", x.flies(0, 5), STATE);
        due.is("waits(0,0,0)", x.waits(0, 0, 0), BAD);
        due.is("starves(0,0,1)", x.starves(0, 0, 1), BAD);
        due.is("falconers(9,9): STATE goes ahead", x.falconers(9, 9), STATE);
        due.is("nearest(0,0)", x.nearest(0, 0), BAD);
        due.is("moult(0,0,0,0)", x.moult(0, 0, 0, 0), BAD);
        due.is("drawn(-1,0,5): STATE goes ahead", x.drawn(-1, 0, 5), STATE);
    }

    private static void aheadAndLater() {
        HawkAsks x = Due.told("c5,4;q2,3,0;q4,9,0;m3;k0;");
        x.fly(0);
        int[] ridges = {0, 1, 2, 2, 3, 4, NONE, NONE};
        int[] hungers = {3, 3, 0, 1, 1, 1, 1, 1};
        for (int n = 0; n < ridges.length; n++) {
            due.is("ahead(0," + n + ",0)", x.ahead(0, n, 0), ridges[n]);
            due.is("ahead(0," + n + ",1)", x.ahead(0, n, 1), hungers[n]);
            due.is("later(0," + n + ")", x.later(0, n), n < 2 ? 2 : NONE);
            due.is("later(1," + n + ")", x.later(1, n), 4);
        }
        due.is("ahead(1,60,0)", x.ahead(1, 60, 0), 0);
        due.is("ahead(1,60,1)", x.ahead(1, 60, 1), 9);
        due.is("ahead(0,61,0)", x.ahead(0, 61, 0), BAD);
        due.is("ahead(0,-1,0)", x.ahead(0, -1, 0), BAD);
        due.is("ahead(2,0,0)", x.ahead(2, 0, 0), BAD);
        due.is("ahead(0,0,2)", x.ahead(0, 0, 2), BAD);
        due.is("ahead(0,0,-1)", x.ahead(0, 0, -1), BAD);
        due.is("later(2,0)", x.later(2, 0), BAD);
        due.is("later(0,61)", x.later(0, 61), BAD);
        due.is("later(0,-1)", x.later(0, -1), BAD);
        x = Due.told("c3,4;q2,3,1;k0;");
        int[] drift = {2, 1, 0, 1, 2, 1};
        for (int n = 0; n < drift.length; n++) {
            due.is("later(0," + n + ") turns", x.later(0, n), drift[n]);
        }
    }

    private static void knownAndLost() {
        HawkAsks x = Due.told("c5,4;q2,3,0;q4,9,0;m3;k0;");
        due.is("known(0) on the wrist", x.known(0), NONE);
        x.fly(0);
        due.is("known(0)", x.known(0), 2);
        due.is("known(1)", x.known(1), NONE);
        due.is("known(2)", x.known(2), BAD);
        due.is("known(-1)", x.known(-1), BAD);
        due.is("lost(0)", x.lost(0), 6);
        due.is("lost(1)", x.lost(1), NONE);
        due.is("lost(2)", x.lost(2), BAD);
        due.is("lost(-1)", x.lost(-1), BAD);
        x.hours(2);
        due.is("known(0) now", x.known(0), 0);
        due.is("lost(0) then", x.lost(0), 4);
        x.hours(4);
        due.is("lost(0) now", x.lost(0), 0);
        // Hunger 9 is there behind 27 hours; the answer is on ridge 0 behind 30, and so it is just not lost.
        x = Due.told("c3,30;q2,9,2;k0;");
        x.fly(0);
        due.is("known(0): 30", x.known(0), 30);
        due.is("lost(0): 60", x.lost(0), 60);
        // The 5 behind 16 hours, the 7 on ridge 0 in odd hours behind 38, then the other 7.
        x = Due.told("c3,30;q0,5,2;q2,7,2;q0,7,1;k0;");
        due.is("waits(0,2,1): 60", x.waits(0, 2, 1), 60);
        x.fly(0);
        due.is("known(0)", x.known(0), 16);
        due.is("known(1)", x.known(1), 38);
        due.is("known(2): 60", x.known(2), 60);
        due.is("later(2,59)", x.later(2, 59), 1);
        due.is("later(2,60)", x.later(2, 60), NONE);
    }

    private static void firstOfAll() {
        HawkAsks x = Due.told("c5,9;q4,1,0;q1,1,0;m9;");
        x.fly(0);
        due.is("first(0)", x.first(0), 1);
        due.is("first(1)", x.first(1), 1);
        x.hours(1);
        due.is("first(0) of what is not known now", x.first(0), 0);
        due.is("first(1)", x.first(1), 3);
        due.is("first(2)", x.first(2), BAD);
        due.is("first(-1)", x.first(-1), BAD);
        x = Due.told("c3,9;q1,1,0;q0,1,0;q2,1,0;k1;m1;p1;");
        due.is("first(0): none is flown", x.first(0), NONE);
        due.is("first(1): none is flown", x.first(1), NONE);
        x.fly(0);
        x.fly(2);
        due.is("first(0) of several in an hour the least", x.first(0), 0);
        due.is("first(1)", x.first(1), 1);
    }

    private static void flights() {
        // The kestrel and the blind one can each have the 2 on ridge 0, the kite the 3 on ridge 1.
        HawkAsks x = Due.told("c3,9;q0,2,0;q1,3,0;b3;k2;t4;m0;");
        due.is("flies(1,0)", x.flies(1, 0), 5);
        due.is("flies(1,1)", x.flies(1, 1), 5);
        x.fly(1);
        due.is("flies(1,0), the kestrel being flown", x.flies(1, 0), 4);
        due.is("flies(1,1)", x.flies(1, 1), 5);
        x.hours(1);
        due.is("what is known counts", x.flies(1, 1), 5);
        due.is("flies(0,0)", x.flies(0, 0), BAD);
        due.is("flies(61,0)", x.flies(61, 0), BAD);
        due.is("flies(1,2)", x.flies(1, 2), BAD);
        due.is("flies(1,-1)", x.flies(1, -1), BAD);
        x = Due.told("c2,1;q1,9,0;k9;k9;");
        due.is("none is best", x.flies(60, 0), 0);
        due.is("none is known", x.flies(60, 1), 0);
        x = Due.told("c3,9;q1,2,0;q2,2,0;m2;t9;m2;");
        due.is("fewest goes ahead of least", x.flies(2, 0), 2);
        due.is("flies(2,1)", x.flies(2, 1), 4);
    }

    private static void waiting() {
        HawkAsks x = Due.told("c2,1;q0,1,0;q1,9,0;k0;m9;");
        due.is("waits(0,0,0): till it is hungry", x.waits(0, 0, 0), 3);
        due.is("waits(0,0,1)", x.waits(0, 0, 1), 4);
        due.is("waits(0,1,0): never", x.waits(0, 1, 0), NONE);
        due.is("waits(0,1,1): never", x.waits(0, 1, 1), NONE);
        due.is("waits(2,0,0)", x.waits(2, 0, 0), BAD);
        due.is("waits(0,2,0)", x.waits(0, 2, 0), BAD);
        due.is("waits(0,0,2)", x.waits(0, 0, 2), BAD);
        x.fly(1);
        due.is("waits(1,0,0) of one that is flown", x.waits(1, 0, 0), STATE);
        due.is("waits(1,0,2): BAD goes ahead", x.waits(1, 0, 2), BAD);
        due.is("waits(0,0,0): it is known anyway", x.waits(0, 0, 0), 0);
        due.is("waits(0,0,1)", x.waits(0, 0, 1), 1);
        x.hours(1);
        due.is("waits(0,0,0) of what is known", x.waits(0, 0, 0), 0);
        due.is("waits(0,0,1) of what is known", x.waits(0, 0, 1), 0);
        // Hunger 6 is there behind hour 18, 7 behind 21: beyond the longest wait.
        x = Due.told("c2,1;q0,6,0;q0,7,0;k0;");
        due.is("waits(0,0,0): 18", x.waits(0, 0, 0), 18);
        due.is("waits(0,0,1): 19", x.waits(0, 0, 1), 19);
        due.is("waits(0,1,0): 21 is too long", x.waits(0, 1, 0), NONE);
        x.hours(1);
        due.is("waits(0,1,0): 20", x.waits(0, 1, 0), 20);
        due.is("waits(0,1,1): 21", x.waits(0, 1, 1), 21);
        // Whenever it is let go, the kestrel has the other one first, and must be hungry again.
        x = Due.told("c2,9;q0,1,0;q1,1,2;k1;m1;");
        due.is("waits(0,1,0)", x.waits(0, 1, 0), 0);
        due.is("waits(0,1,1)", x.waits(0, 1, 1), 5);
    }

    private static void starving() {
        HawkAsks x = Due.told("c4,9;q0,4,0;q0,6,0;k1;");
        due.is("starves(0,0,5) on the wrist", x.starves(0, 0, 5), 0);
        x.fly(0);
        due.is("starves(0,0,1): 4 and 5", x.starves(0, 0, 1), 0b0000110000);
        due.is("starves(0,1,1): 6 to 9", x.starves(0, 1, 1), 0b1111000000);
        due.is("starves(0,0,4): 3, and 9 that has both, too", x.starves(0, 0, 4), 0b1000111000);
        due.is("starves(1,0,1)", x.starves(1, 0, 1), BAD);
        due.is("starves(0,2,1)", x.starves(0, 2, 1), BAD);
        due.is("starves(0,0,0)", x.starves(0, 0, 0), BAD);
        due.is("starves(0,0,31)", x.starves(0, 0, 31), BAD);
        x.starve(0, 0);
        x.hours(9);
        due.is("lost(0)", x.lost(0), 0);
        due.is("starves(0,0,1) of one that is lost", x.starves(0, 0, 1), STATE);
        due.is("starves(0,0,31): BAD goes ahead", x.starves(0, 0, 31), BAD);
        x = Due.told("c2,9;q0,1,0;k1;k1;");
        x.fly(0);
        x.hours(1);
        due.is("starves(1,0,30) of what is known", x.starves(1, 0, 30), 1023);
    }

    private static void turns() {
        // Hawk 0 alone has 5, hawk 1 alone has 5; of both the one of the least number is first.
        HawkAsks x = Due.told("c2,9;q0,5,0;k5;k5;");
        due.is("falconers(0,5)", x.falconers(0, 5), 0);
        due.is("falconers(1,5)", x.falconers(1, 5), 5);
        due.is("falconers(2,5): the second comes late", x.falconers(2, 5), 5);
        x = Due.told("c2,9;q0,5,0;b5;k5;");
        due.is("falconers(1,1): the first can have none", x.falconers(1, 1), 0);
        due.is("falconers(2,1)", x.falconers(2, 1), -5);
        // The second would rather have none of it than help: the kite takes 1, and is let go or not.
        x = Due.told("c3,9;q1,1,0;q0,9,0;k8;t2;");
        due.is("falconers(2,1)", x.falconers(2, 1), -1);
        // Hawk 2 takes the 3 that the kestrel leaves, so two turns of the first are worth more.
        x = Due.told("c2,9;q0,4,0;q0,3,0;k4;m0;k3;k9;");
        due.is("falconers(1,1)", x.falconers(1, 1), 4);
        due.is("falconers(2,1)", x.falconers(2, 1), 1);
        due.is("falconers(3,1)", x.falconers(3, 1), 7);
        due.is("falconers(4,1)", x.falconers(4, 1), 7);
        x.fly(3);
        x.hours(1);
        due.is("what was taken ahead counts for none", x.falconers(0, 1), -3);
        due.is("falconers(-1,1)", x.falconers(-1, 1), BAD);
        due.is("falconers(5,1)", x.falconers(5, 1), BAD);
        due.is("falconers(0,0)", x.falconers(0, 0), BAD);
        due.is("falconers(0,21)", x.falconers(0, 21), BAD);
    }

    private static void nearest() {
        HawkAsks x = Due.told("c6,9;q4,1,0;q0,1,0;q2,1,0;q2,1,0;k9;");
        due.is("nearest(0,0)", x.nearest(0, 0), 1);
        due.is("nearest(0,1)", x.nearest(0, 1), 0);
        due.is("nearest(1,0): of several the least", x.nearest(1, 0), 1);
        due.is("nearest(2,0)", x.nearest(2, 0), 2);
        due.is("nearest(3,0)", x.nearest(3, 0), 0);
        due.is("nearest(3,1)", x.nearest(3, 1), 1);
        due.is("nearest(5,1)", x.nearest(5, 1), 1);
        due.is("nearest(6,0)", x.nearest(6, 0), BAD);
        due.is("nearest(-1,0)", x.nearest(-1, 0), BAD);
        due.is("nearest(0,2)", x.nearest(0, 2), BAD);
        x.fly(0);
        x.hours(1);
        due.is("nearest(0,0) of what is not known", x.nearest(0, 0), 2);
        due.is("nearest(0,1)", x.nearest(0, 1), 2);
        x = Due.told("c2,9;q0,1,0;k9;");
        x.fly(0);
        x.hours(1);
        due.is("nearest(0,0): all is known", x.nearest(0, 0), NONE);
        due.is("nearest(0,1): all is known", x.nearest(0, 1), NONE);
    }

    private static void bellsOfHawks() {
        HawkAsks x = Due.told("c5,2;q4,9,0;m1;p9;");
        x.fly(0);
        Due.bell(x, 0, 1, 2);
        Due.bell(x, 1, 2, 4);
        Due.bell(x, 2, 0, 0);
        Due.bell(x, 3, 9, 1, 2, 9);
        due.is("a merlin or a kite", x.who(0, 0, 0, 0, 0, 2), 1 << 1 | 1 << 4);
        due.is("a peregrine", x.who(0, 0, 0, 1, 0, 2), 1 << 2);
        due.is("a kestrel or a blind one", x.who(0, 0, 0, 2, 0, 2), 1 << 3 | 1 << 5);
        due.is("hungers: all but none", x.who(0, 1, 0, 0, 0, 2), 1022);
        due.is("hungers: none", x.who(0, 1, 0, 2, 0, 2), 1);
        due.is("within a row", x.who(0, 0, 0, 3, 1, 2), 1 << 1 | 1 << 4);
        due.is("not where it is", x.who(0, 0, 0, 3, 0, 2), 0);
        due.is("of another on the wrist", x.who(0, 0, 1, 2, 0, 2), 62);
        Due.bell(x, 4, 1, 2, 2, 2);
        due.is("lost: as where it was", x.who(0, 0, 0, 4, 0, 4), 1 << 1 | 1 << 4);
        HawkAsks y = Due.told("c9,9;q5,9,1;m1;");
        y.fly(0);
        y.hours(4);
        Due.bell(y, 0, 3, 2);
        due.is("a blind one, down from ridge 4", y.who(0, 0, 0, 0, 0, 2), 1 << 5);
        x.hours(1);
        Due.bell(x, 6, 0, 0, 0);
        due.is("a blind one, down from ridge 1 to 0, and lost", x.who(0, 0, 0, 6, 0, 3), 1 << 5);
        x.hours(1);
        due.is("who(0,..) that is lost", x.who(0, 0, 1, 2, 0, 2), STATE);
        Due.bell(x, 5, 2, 2, 2);
        due.is("by the bell of a lost one", x.who(1, 0, 0, 5, 0, 3), 62);
    }

    private static void bellsOfAnswers() {
        HawkAsks x = Due.told("c5,9;q2,9,0;m1;");
        x.fly(0);
        Due.bell(x, 0, 1, 2, 3);
        due.is("drifts", x.what(0, 0, 0, 0, 0, 3), 1 << 1);
        due.is("places: it stays on 3 or 4", x.what(0, 1, 0, 0, 0, 3), 1 << 3 | 1 << 4);
        Due.bell(x, 2, 1, 0);
        due.is("drifts: down, it is met on ridge 1 and goes on", x.what(0, 0, 0, 2, 0, 2), 1 << 2);
        due.is("drifts: all, for an hour", x.what(0, 0, 0, 2, 0, 1), 7);
        Due.bell(x, 1, 0);
        due.is("places: on 0", x.what(0, 1, 0, 1, 0, 1), 1);
        due.is("drifts: none", x.what(0, 0, 0, 1, 0, 1), 0);
        x.hours(2);
        x.starve(0, 9);
        x.hours(1);
        due.is("what(0,..) that is known", x.what(0, 0, 0, 0, 0, 1), STATE);
    }

    private static void bellsRefused() {
        HawkAsks x = Due.told("c5,9;q2,9,0;m1;");
        x.row(0, 0, 12);
        x.row(1, 0, -1);
        due.is("who: hawk", x.who(1, 0, 0, 0, 0, 1), BAD);
        due.is("who: which", x.who(0, 2, 0, 0, 0, 1), BAD);
        due.is("who: other", x.who(0, 0, -1, 0, 0, 1), BAD);
        due.is("who: row", x.who(0, 0, 0, 8, 0, 1), BAD);
        due.is("who: n = 0", x.who(0, 0, 0, 0, 0, 0), BAD);
        due.is("who: n = 13", x.who(0, 0, 0, 0, 0, 13), BAD);
        due.is("what: answer", x.what(1, 0, 0, 0, 0, 1), BAD);
        due.is("what: which", x.what(0, -1, 0, 0, 0, 1), BAD);
        due.is("what: hawk", x.what(0, 0, 1, 0, 0, 1), BAD);
        due.is("what: row", x.what(0, 0, 0, -1, 0, 1), BAD);
        due.is("what: n = 0", x.what(0, 0, 0, 0, 0, 0), BAD);
        due.is("what: n = 13", x.what(0, 0, 0, 0, 0, 13), BAD);
        due.is("BAD leaves status()", x.status(), 4);
        due.is("who: missing", x.who(0, 0, 0, 7, -1, 1), NULL);
        due.is("status()", x.status(), 1);
        due.is("who: i = -1", x.who(0, 0, 0, 0, -1, 1), PLACE);
        due.is("status()", x.status(), 2);
        due.is("who: all 12", x.who(0, 0, 0, 0, 0, 12), 62);
        due.is("status()", x.status(), 0);
        due.is("who: beyond", x.who(0, 0, 0, 0, 1, 12), PLACE);
        due.is("who: far beyond", x.who(0, 0, 0, 0, Integer.MAX_VALUE, 12), PLACE);
        due.is("what: missing", x.what(0, 0, 0, 7, 0, 1), NULL);
        due.is("what: beyond", x.what(0, 0, 0, 0, 12, 1), PLACE);
        due.is("what: all 12", x.what(0, 1, 0, 0, 0, 12), 31);
        due.is("status()", x.status(), 0);
        x.starve(0, 0);
        x.fly(0);
        x.hours(9);
        x.drop(7);
        due.is("who: STATE goes ahead of NULL", x.who(0, 0, 0, 7, 0, 1), STATE);
        due.is("STATE leaves status()", x.status(), 1);
        due.is("who: BAD goes ahead of STATE", x.who(0, 0, 0, 7, 0, 13), BAD);
    }

    private static void moulting() {
        HawkAsks x = Due.told("c3,9;q0,1,0;q1,9,0;k1;k1;b2;m9;");
        due.is("none is flown", x.moult(0, 60, 5, 0), 0);
        due.is("0 is 0 by 1", x.moult(0, 60, 5, 1), 1);
        x.fly(0);
        due.is("one: 7 of 10, above", x.moult(0, 1, 3, 0), 7);
        due.is("one: 7 of 10, below", x.moult(0, 1, 3, 1), 10);
        due.is("one: 3 of 5, above", x.moult(0, 1, 4, 0), 3);
        due.is("one: 3 of 5, below", x.moult(0, 1, 4, 1), 5);
        x.fly(1);
        x.fly(2);
        due.is("three: 1 less 0.027, above", x.moult(0, 1, 3, 0), 973);
        due.is("three: 1 less 0.027, below", x.moult(0, 1, 3, 1), 1000);
        due.is("n = 0, above", x.moult(0, 0, 3, 0), 0);
        due.is("n = 0, below", x.moult(0, 0, 3, 1), 1);
        due.is("p = 0, above", x.moult(0, 1, 0, 0), 1);
        due.is("p = 0, below", x.moult(0, 1, 0, 1), 1);
        due.is("p = 10, above", x.moult(0, 1, 10, 0), 0);
        due.is("p = 10, below", x.moult(0, 1, 10, 1), 1);
        due.is("moult(2,0,0,0)", x.moult(2, 0, 0, 0), BAD);
        due.is("moult(0,61,0,0)", x.moult(0, 61, 0, 0), BAD);
        due.is("moult(0,-1,0,0)", x.moult(0, -1, 0, 0), BAD);
        due.is("moult(0,0,11,0)", x.moult(0, 0, 11, 0), BAD);
        due.is("moult(0,0,-1,0)", x.moult(0, 0, -1, 0), BAD);
        due.is("moult(0,0,0,2)", x.moult(0, 0, 0, 2), BAD);
        x.hours(1);
        due.is("known: 1, above", x.moult(0, 0, 10, 0), 1);
        due.is("known: 1, below", x.moult(0, 0, 10, 1), 1);
    }

    private static void seasons() {
        HawkAsks x = Due.told("c2,9;q0,1,0;q0,3,0;k1;k3;");
        // X: 16807 (odd), 282475249 (odd), 1622650073 (odd), 984943658 (hawk 0, let go, takes the 1).
        due.is("drawn(0,1,0)", x.drawn(0, 1, 0), 0);
        due.is("drawn(3,1,0)", x.drawn(3, 1, 0), 0);
        due.is("drawn(4,1,0)", x.drawn(4, 1, 0), 1);
        due.is("drawn(4,1,1)", x.drawn(4, 1, 1), 0);
        // Seed 10 makes X 168070: hawk 0, even: let go, and by 5, but it was on the wrist.
        due.is("drawn(1,10,0): not called back at once", x.drawn(1, 10, 0), 1);
        x.fly(0);
        x.starve(0, 0);
        due.is("called back, by 5", x.drawn(1, 10, 1), 0);
        due.is("one hawk alone", Due.told("c2,9;q0,1,0;k1;").drawn(1, 2, 0), 1);
        x = Due.told("c2,1;q0,9,0;k1;k3;");
        x.fly(0);
        due.is("called back ahead of the hour: not lost", x.drawn(1, 10, 1), 0);
        due.is("not by 5: lost", x.drawn(1, 2, 1), 1);
        due.is("drawn(-1,1,0)", x.drawn(-1, 1, 0), BAD);
        due.is("drawn(61,1,0)", x.drawn(61, 1, 0), BAD);
        due.is("drawn(1,0,0)", x.drawn(1, 0, 0), BAD);
        due.is("drawn(1,1000000,0)", x.drawn(1, 1000000, 0), BAD);
        due.is("drawn(1,1,2)", x.drawn(1, 1, 2), BAD);
        due.is("drawn(1,1,-1)", x.drawn(1, 1, -1), BAD);
    }

    private static void nothingChanges() {
        HawkAsks x = Due.told("c5,4;q2,3,0;q4,9,0;q1,1,1;m3;k0;");
        x.fly(0);
        Due.bell(x, 0, 1, 2);
        String before = Due.seen(x);
        x.ahead(0, 60, 0);
        x.later(0, 60);
        x.known(1);
        x.lost(0);
        x.first(0);
        x.flies(60, 0);
        x.waits(1, 0, 0);
        x.starves(0, 0, 30);
        x.falconers(4, 20);
        x.nearest(0, 0);
        x.who(0, 0, 0, 0, 0, 2);
        x.who(0, 1, 0, 0, 0, 2);
        x.what(0, 0, 0, 0, 0, 2);
        x.what(0, 1, 0, 0, 0, 2);
        x.moult(0, 60, 5, 0);
        x.drawn(60, 5, 0);
        due.is("nothing changes by what is foretold", Due.seen(x).equals(before) ? 1 : 0, 1);
    }
}
