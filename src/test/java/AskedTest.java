/** Promises 34 to 39: kinds, asks, the trace, counts, and the status of as(). */
public final class AskedTest {
    private static final Due due = new Due("AskedTest");
    private static final int NONE = HawkAsks.NONE, BAD = HawkAsks.BAD, KIND = -1000013;

    public static void main(String[] args) {
        kinds();
        taken();
        asks();
        refused();
        counts();
        due.end();
    }

    private static HawkAsks five() {
        return Due.told("c9,20;q8,9,0;q8,1,0;m3;p4;k5;t6;b7;");
    }

    private static void kinds() {
        HawkAsks x = five();
        for (int h = 0; h < 5; h++) {
            due.is("kind(" + h + ")", x.kind(h), h + 1);
        }
        due.is("kind(5)", x.kind(5), BAD);
        due.is("kind(-1)", x.kind(-1), BAD);
        due.is("kind(0) without a castle", new HawkAsks().kind(0), BAD);
    }

    private static void taken() {
        String[] isA = {"110000", "111000", "110100", "100010", "100011"};
        HawkAsks x = five();
        for (int h = 0; h < 5; h++) {
            for (int kind = 0; kind <= 5; kind++) {
                boolean fits = isA[h].charAt(kind) == '1';
                due.is("as(" + h + "," + kind + ")", x.as(h, kind), fits ? h : KIND);
                due.is("status()", x.status(), fits ? 0 : 3);
            }
        }
        x.as(0, 5);
        due.is("as(0,6)", x.as(0, 6), BAD);
        due.is("as(0,-1)", x.as(0, -1), BAD);
        due.is("as(5,0)", x.as(5, 0), BAD);
        due.is("as(-1,0)", x.as(-1, 0), BAD);
        due.is("BAD leaves status()", x.status(), 3);
        due.is("as(0,0) without a castle", new HawkAsks().as(0, 0), BAD);
    }

    private static void asked(HawkAsks x, int one, int what, int reply, int... bodies) {
        String call = "ask(" + one + "," + what + ")";
        due.is(call, x.ask(one, what), reply);
        for (int i = 0; i < bodies.length; i++) {
            due.is(call + " trace(" + i + ")", x.trace(i), bodies[i]);
        }
        due.is(call + " trace ends", x.trace(bodies.length), NONE);
    }

    private static void asks() {
        HawkAsks x = five();
        for (int h = 0; h < 5; h++) {
            x.fly(h);
        }
        x.hours(2);
        // Ridges then: merlin 2, peregrine 4, kestrel 0, kite 2, blind 0.
        asked(x, 0, 0, 3 + 0 + 2, 11, 10, 21, 20);
        asked(x, 0, 1, 0 + 2, 21, 20);
        asked(x, 1, 0, -(4 + (1 + 4) * 2), 12, 11, 10, 24, 21, 20);
        asked(x, 1, 1, (1 + 4) * 2, 24, 21, 20);
        asked(x, 2, 0, 5 + 2 + 0 - 1000, 11, 10, 22, 21, 20);
        asked(x, 2, 1, 2 + 0 - 1000, 22, 21, 20);
        asked(x, 3, 0, 6 - 100, 13, 10);
        asked(x, 3, 1, 3 - (6 - 100), 23, 20, 13, 10);
        asked(x, 4, 0, (7 - 100) * 2, 14, 13, 10);
        asked(x, 4, 1, 4 - (7 - 100) * 2, 23, 20, 14, 13, 10);
        x.starve(1, 0);
        x.hours(24);
        // The peregrine had both answers when the merlin had come to ridge 7.
        due.is("the merlin is lost", x.hawk(0, 2), 2);
        asked(x, 0, 1, 0 + 7, 21, 20);
    }

    private static void refused() {
        HawkAsks x = five();
        due.is("trace(0) ahead of an ask", x.trace(0), NONE);
        x.ask(3, 0);
        due.is("ask(5,0)", x.ask(5, 0), BAD);
        due.is("ask(-1,0)", x.ask(-1, 0), BAD);
        due.is("ask(0,2)", x.ask(0, 2), BAD);
        due.is("ask(0,-1)", x.ask(0, -1), BAD);
        due.is("trace(0) of the ask ahead", x.trace(0), 13);
        due.is("trace(1) of the ask ahead", x.trace(1), 10);
        due.is("trace(2)", x.trace(2), NONE);
        due.is("trace(-1)", x.trace(-1), NONE);
        due.is("trace(max)", x.trace(Integer.MAX_VALUE), NONE);
        due.is("trace(min)", x.trace(Integer.MIN_VALUE), NONE);
        due.is("trace(16)", x.trace(16), NONE);
    }

    private static void counts() {
        HawkAsks x = Due.told("c3,2;q0,3,0;q2,5,0;m0;k9;p9;");
        x.row(2, 0, 4);
        x.row(5, 0, 4);
        x.fly(0);
        x.fly(1);
        x.hours(2);
        x.feed('c');
        int[] all = {2, 3, 2, 2, 1, 1, 4, 1};
        for (int what = 0; what < all.length; what++) {
            due.is("count(" + what + ")", x.count(what), all[what]);
        }
        due.is("count(8)", x.count(8), BAD);
        due.is("count(-1)", x.count(-1), BAD);
    }
}
