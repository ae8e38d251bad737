/** Promises 9 to 17: hours and other acts, their undoing, and how all stands. */
public final class DoneTest {
    private static final Due due = new Due("DoneTest");
    private static final int NONE = HawkAsks.NONE, BAD = HawkAsks.BAD, STATE = HawkAsks.STATE;

    public static void main(String[] args) {
        withoutCastle();
        merlin();
        peregrine();
        kestrel();
        kiteAndBlind();
        drifting();
        takingTurns();
        hunger();
        losing();
        hoursRefused();
        flyAndCall();
        starving();
        laying();
        undoing();
        whatIsAsked();
        standing();
        due.end();
    }

    /** Hunger, ridge, how it is, ALOFT, as one number. */
    private static void hawkIs(HawkAsks x, String when, int h, int hunger, int ridge, int how, int aloft) {
        due.is(when + ": hawk(" + h + ",0)", x.hawk(h, 0), hunger);
        due.is(when + ": hawk(" + h + ",1)", x.hawk(h, 1), ridge);
        due.is(when + ": hawk(" + h + ",2)", x.hawk(h, 2), how);
        due.is(when + ": hawk(" + h + ",3)", x.hawk(h, 3), aloft);
    }

    private static void answerIs(HawkAsks x, String when, int a, int ridge, int drift, int known) {
        due.is(when + ": answer(" + a + ",0)", x.answer(a, 0), ridge);
        due.is(when + ": answer(" + a + ",2)", x.answer(a, 2), drift);
        due.is(when + ": answer(" + a + ",3)", x.answer(a, 3), known);
    }

    private static void withoutCastle() {
        HawkAsks x = new HawkAsks();
        due.is("undo()", x.undo(), STATE);
        due.is("hours(1)", x.hours(1), STATE);
        due.is("hours(0): STATE goes ahead", x.hours(0), STATE);
        due.is("fly(0)", x.fly(0), BAD);
        due.is("call(0)", x.call(0), BAD);
        due.is("starve(0,0)", x.starve(0, 0), BAD);
        due.is("lay(0,0)", x.lay(0, 0), BAD);
        due.is("answer(0,0)", x.answer(0, 0), BAD);
        due.is("stand(9): STATE goes ahead", x.stand(9), STATE);
    }

    private static void merlin() {
        HawkAsks x = Due.told("c5,4;q2,3,0;q4,9,0;m3;");
        due.is("fly(0)", x.fly(0), 1);
        hawkIs(x, "let go", 0, 3, 0, 1, 0);
        due.is("hours(1)", x.hours(1), 0);
        hawkIs(x, "hour 1", 0, 3, 1, 1, 1);
        due.is("hours(1)", x.hours(1), 3);
        hawkIs(x, "hour 2", 0, 0, 2, 1, 0);
        x.hours(1);
        hawkIs(x, "hour 3, it sat and is hungry behind it", 0, 1, 2, 1, 1);
        x.hours(1);
        hawkIs(x, "hour 4", 0, 1, 3, 1, 2);
        x.hours(1);
        hawkIs(x, "hour 5, worth is above hunger", 0, 1, 4, 1, 3);
        due.is("hours(1)", x.hours(1), 3);
        hawkIs(x, "hour 6, lost", 0, 1, 4, 2, 0);
        x.hours(3);
        hawkIs(x, "hour 9, lost for good", 0, 1, 4, 2, 0);
        x = Due.told("c5,9;q3,9,0;q1,2,0;q1,2,0;m1;m2;");
        due.is("nearest, of several the least", x.hawk(0, 4), 1);
        x.fly(1);
        x.hours(1);
        due.is("of the same worth the least is taken", x.stand(2), 2);
        x = Due.told("c4,9;q1,1,0;m9;");
        x.fly(0);
        x.hours(3);
        hawkIs(x, "all is known: it stays", 0, 9, 1, 1, 2);
    }

    private static void peregrine() {
        HawkAsks x = Due.told("c9,9;q8,5,0;q1,5,0;q7,9,0;p1;");
        x.fly(0);
        due.is("of greatest worth", x.hawk(0, 4), 2);
        x.hours(1);
        hawkIs(x, "hour 1", 0, 1, 2, 1, 1);
        x.hours(2);
        hawkIs(x, "hour 3", 0, 2, 6, 1, 3);
        due.is("hours(1)", x.hours(1), 9);
        hawkIs(x, "hour 4, no farther than there", 0, 0, 7, 1, 0);
        due.is("of the same worth the nearest", x.hawk(0, 4), 0);
        x.call(0);
        due.is("nearest to the wrist", x.hawk(0, 4), 1);
        x = Due.told("c9,9;q4,5,0;q4,5,0;q2,8,0;q2,9,0;p9;");
        due.is("of greatest worth, alone", x.hawk(0, 4), 3);
        x.fly(0);
        due.is("it takes one of two on its way", x.hours(1), 9);
        due.is("which", x.stand(2), 8);
        due.is("hours(1): the other, it has no hunger", x.hours(1), 9);
        due.is("goes for it, though", x.hawk(0, 4), 2);
        x = Due.told("c9,9;q4,5,0;q4,5,0;p9;");
        due.is("then the least", x.hawk(0, 4), 0);
    }

    private static void kestrel() {
        HawkAsks x = Due.told("c3,9;q0,4,0;q0,3,0;q0,5,0;q2,1,2;k4;");
        x.fly(0);
        due.is("goes for none", x.hawk(0, 4), NONE);
        due.is("would take the greatest that is no more than hunger", x.hawk(0, 5), 0);
        due.is("hours(1)", x.hours(1), 4);
        hawkIs(x, "hour 1", 0, 0, 0, 1, 0);
        due.is("would take none without hunger", x.hawk(0, 5), NONE);
        x.hours(2);
        hawkIs(x, "hour 3", 0, 1, 0, 1, 2);
        due.is("the drifting one went by", x.answer(3, 0), 1);
    }

    private static void kiteAndBlind() {
        HawkAsks x = Due.told("c3,9;q0,9,0;q1,5,0;q1,6,0;t6;b9;");
        x.fly(0);
        x.fly(1);
        due.is("a blind one takes less than hunger alone", x.hawk(1, 5), NONE);
        due.is("hours(1)", x.hours(1), 5);
        hawkIs(x, "kite, hour 1", 0, 1, 1, 1, 0);
        hawkIs(x, "blind, hour 1: it stays on ridge 0", 1, 9, 0, 1, 1);
        x.hours(1);
        hawkIs(x, "kite, hour 2", 0, 1, 2, 1, 1);
        x.hours(1);
        hawkIs(x, "kite, hour 3: from the last one to 0", 0, 2, 0, 1, 2);
        hawkIs(x, "blind, hour 3: 9 at most", 1, 9, 0, 1, 3);
        due.is("a kite goes for none", x.hawk(0, 4), NONE);
        due.is("lay(2,0)", x.lay(2, 0), 1);
        due.is("hours(1)", x.hours(1), 11);
        hawkIs(x, "blind, hour 4", 1, 3, 0, 1, 0);
    }

    private static void drifting() {
        HawkAsks x = Due.told("c3,9;q2,1,1;q0,1,2;q1,1,1;q1,1,0;k0;");
        x.hours(1);
        answerIs(x, "hour 1, it turned", 0, 1, 2, 0);
        answerIs(x, "hour 1, it turned", 1, 1, 1, 0);
        answerIs(x, "hour 1, it came to the end", 2, 2, 1, 0);
        answerIs(x, "hour 1, it stays", 3, 1, 0, 0);
        x.hours(1);
        answerIs(x, "hour 2", 0, 0, 2, 0);
        answerIs(x, "hour 2", 1, 2, 1, 0);
        answerIs(x, "hour 2", 2, 1, 2, 0);
        x = Due.told("c3,9;q2,1,2;m9;");
        x.fly(0);
        due.is("met half way", x.hours(1), 1);
        x.hours(3);
        answerIs(x, "what is known moves no more", 0, 1, 2, 1);
    }

    private static void takingTurns() {
        HawkAsks x = Due.told("c2,9;q1,4,0;q0,2,0;m9;m9;k9;");
        x.fly(0);
        x.fly(1);
        x.fly(2);
        due.is("hours(1): the one stays for the nearest, the next goes on", x.hours(1), 6);
        hawkIs(x, "first", 0, 7, 0, 1, 0);
        hawkIs(x, "second", 1, 5, 1, 1, 0);
        hawkIs(x, "third", 2, 9, 0, 1, 1);
    }

    private static void hunger() {
        HawkAsks x = Due.told("c2,9;q1,9,0;q0,1,0;m0;k8;k9;k1;");
        x.fly(3);
        x.hours(2);
        due.is("not yet", x.hawk(0, 0), 0);
        x.hours(1);
        due.is("on the wrist too", x.hawk(0, 0), 1);
        due.is("to 9", x.hawk(1, 0), 9);
        due.is("9 at most", x.hawk(2, 0), 9);
        due.is("it took in hour 0", x.hawk(3, 0), 1);
        x.hours(3);
        due.is("each three hours", x.hawk(0, 0), 2);
        x = Due.told("c2,9;q1,1,0;q1,1,0;q1,1,0;m9;m3;");
        x.fly(1);
        x.hours(3);
        due.is("it took in hour 2: no more hunger", x.hawk(1, 0), 0);
        due.is("hour", x.count(3), 3);
    }

    private static void losing() {
        HawkAsks x = Due.told("c2,1;q1,1,0;k0;m0;");
        x.fly(0);
        x.hours(1);
        hawkIs(x, "it sat, and is lost", 0, 0, 0, 2, 0);
        due.is("fly(0)", x.fly(0), STATE);
        due.is("call(0)", x.call(0), STATE);
        due.is("starve(0,1)", x.starve(0, 1), STATE);
        due.is("count(5)", x.count(5), 1);
        x = Due.told("c5,3;q4,9,0;m1;");
        x.fly(0);
        x.hours(2);
        x.call(0);
        x.fly(0);
        x.hours(2);
        hawkIs(x, "called back, ALOFT begins anew", 0, 2, 2, 1, 2);
        x.hours(1);
        hawkIs(x, "lost where it was", 0, 2, 3, 2, 0);
    }

    private static void hoursRefused() {
        HawkAsks x = Due.told("c2,1;q1,1,0;k0;");
        due.is("hours(0)", x.hours(0), BAD);
        due.is("hours(25)", x.hours(25), BAD);
        due.is("hours(-1)", x.hours(-1), BAD);
        for (int k = 0; k < 41; k++) {
            due.is("hours(24)", x.hours(24), 0);
        }
        due.is("hours(16) beyond 999", x.hours(16), HawkAsks.FULL);
        due.is("BAD goes ahead of FULL", x.hours(25), BAD);
        due.is("count(3)", x.count(3), 984);
        due.is("hours(15)", x.hours(15), 0);
        due.is("count(3)", x.count(3), 999);
        due.is("hours(1)", x.hours(1), HawkAsks.FULL);
        due.is("known() looks beyond", x.known(0), NONE);
    }

    private static void flyAndCall() {
        HawkAsks x = Due.told("c3,9;q2,9,0;m1;t1;b1;");
        due.is("fly(1)", x.fly(1), 2);
        due.is("fly(1) again", x.fly(1), STATE);
        due.is("fly(2)", x.fly(2), 6);
        due.is("fly(3)", x.fly(3), BAD);
        due.is("fly(-1)", x.fly(-1), BAD);
        due.is("call(0)", x.call(0), STATE);
        due.is("call(3)", x.call(3), BAD);
        due.is("call(-1)", x.call(-1), BAD);
        x.hours(1);
        hawkIs(x, "hour 1", 1, 1, 1, 1, 1);
        due.is("call(1)", x.call(1), 4);
        hawkIs(x, "called back", 1, 1, 0, 0, 0);
        due.is("acts", x.count(6), 4);
    }

    private static void starving() {
        HawkAsks x = Due.told("c3,9;q2,9,0;m1;t4;");
        due.is("starve(0,9)", x.starve(0, 9), 1);
        due.is("starve(0,0)", x.starve(0, 0), 9);
        due.is("starve(0,10)", x.starve(0, 10), BAD);
        due.is("starve(0,-1)", x.starve(0, -1), BAD);
        due.is("starve(2,1)", x.starve(2, 1), BAD);
        x.fly(1);
        due.is("starve(1,2) of one that is flown", x.starve(1, 2), 4);
        due.is("hawk(1,0)", x.hawk(1, 0), 2);
        due.is("starve(1,2) again", x.starve(1, 2), 2);
        due.is("acts", x.count(6), 5);
    }

    private static void laying() {
        HawkAsks x = Due.told("c4,9;q2,1,1;q0,1,0;k9;");
        due.is("lay(0,3)", x.lay(0, 3), 2);
        due.is("lay(0,3) again", x.lay(0, 3), STATE);
        due.is("lay(0,4)", x.lay(0, 4), BAD);
        due.is("lay(0,-1)", x.lay(0, -1), BAD);
        due.is("lay(2,0)", x.lay(2, 0), BAD);
        answerIs(x, "drift stays", 0, 3, 1, 0);
        x.hours(1);
        answerIs(x, "hour 1", 0, 2, 2, 0);
        x.fly(0);
        x.hours(1);
        due.is("lay(1,2) of what is known", x.lay(1, 2), STATE);
        due.is("lay(1,4): BAD goes ahead", x.lay(1, 4), BAD);
        due.is("acts", x.count(6), 4);
    }

    private static void undoing() {
        HawkAsks x = Due.told("c4,9;q1,2,1;q3,4,0;m3;k2;");
        x.fly(0);
        x.hours(2);
        x.starve(1, 7);
        x.lay(1, 0);
        x.call(0);
        due.is("acts", x.count(6), 6);
        due.is("undo() of call", x.undo(), 5);
        hawkIs(x, "flown again", 0, 3, 2, 1, 2);
        due.is("undo() of lay", x.undo(), 4);
        due.is("where it was", x.answer(1, 0), 3);
        due.is("undo() of starve", x.undo(), 3);
        due.is("hunger", x.hawk(1, 0), 2);
        due.is("undo() of an hour", x.undo(), 2);
        hawkIs(x, "hour 1", 0, 3, 1, 1, 1);
        answerIs(x, "hour 1", 0, 2, 1, 0);
        due.is("undo() of an hour", x.undo(), 1);
        due.is("hour", x.count(3), 0);
        answerIs(x, "hour 0", 0, 1, 1, 0);
        due.is("undo() of fly", x.undo(), 0);
        hawkIs(x, "on the wrist", 0, 3, 0, 0, 0);
        due.is("undo()", x.undo(), STATE);
        for (int k = 0; k < 3; k++) {
            x.hours(12);
        }
        due.is("24 are kept", x.count(6), 24);
        for (int k = 23; k >= 0; k--) {
            due.is("undo()", x.undo(), k);
        }
        due.is("the oldest are forgotten", x.count(3), 12);
        due.is("undo()", x.undo(), STATE);
    }

    private static void whatIsAsked() {
        HawkAsks x = Due.told("c3,2;q0,3,0;q2,5,0;m5;k9;p9;");
        due.is("hawk(3,0)", x.hawk(3, 0), BAD);
        due.is("hawk(-1,0)", x.hawk(-1, 0), BAD);
        due.is("hawk(0,6)", x.hawk(0, 6), BAD);
        due.is("hawk(0,-1)", x.hawk(0, -1), BAD);
        due.is("on the wrist it goes for", x.hawk(0, 4), 0);
        due.is("on the wrist it takes none", x.hawk(0, 5), NONE);
        x.fly(0);
        due.is("flown it would take", x.hawk(0, 5), 0);
        x.starve(0, 2);
        due.is("worth above hunger", x.hawk(0, 5), NONE);
        x.starve(0, 0);
        due.is("without hunger it goes for", x.hawk(0, 4), 0);
        due.is("without hunger it takes none", x.hawk(0, 5), NONE);
        x.hours(2);
        due.is("lost", x.hawk(0, 2), 2);
        due.is("lost, as all are now", x.hawk(0, 4), 0);
        due.is("lost it takes none", x.hawk(0, 5), NONE);
        HawkAsks y = Due.told("c2,9;q0,1,0;k1;p0;");
        y.fly(0);
        y.fly(1);
        due.is("hunger 1 would take worth 1", y.hawk(0, 5), 0);
        due.is("a peregrine without hunger takes none", y.hawk(1, 5), NONE);
        due.is("answer(2,0)", x.answer(2, 0), BAD);
        due.is("answer(-1,0)", x.answer(-1, 0), BAD);
        due.is("answer(0,4)", x.answer(0, 4), BAD);
        due.is("answer(0,-1)", x.answer(0, -1), BAD);
        due.is("answer(1,1)", x.answer(1, 1), 5);
        x.fly(1);
        x.hours(1);
        answerIs(x, "known, where", 0, 0, 0, 1);
        x.fly(2);
        x.hours(1);
        due.is("all is known: a peregrine goes for none", x.hawk(2, 4), NONE);
    }

    private static void standing() {
        HawkAsks x = Due.told("c3,2;q0,3,0;q2,5,0;m0;k9;p9;");
        x.fly(0);
        x.fly(1);
        x.hours(2);
        due.is("flown", x.stand(0), 2);
        due.is("lost", x.stand(1), 1);
        due.is("known", x.stand(2), 1);
        due.is("worth", x.stand(3), 3);
        due.is("ridges", x.stand(4), 3);
        due.is("long", x.stand(5), 2);
        due.is("stand(6)", x.stand(6), BAD);
        due.is("stand(-1)", x.stand(-1), BAD);
        x.fly(2);
        due.is("flown", x.stand(0), 6);
    }
}
