/** Promises 1, 6, 7, 8: a new object, the tape, its reading and its faults. */
public final class TextTest {
    private static final Due due = new Due("TextTest");
    private static final String LAW = "c4,9;", ANSWER = "q0,1,0;", HAWK = "m1;";

    public static void main(String[] args) {
        newObject();
        tape();
        goodTexts();
        faultsOfPlace();
        faultsOfNumbers();
        faultsOfRoom();
        faultsLeaveAll();
        textsBehindTexts();
        due.end();
    }

    private static void newObject() {
        HawkAsks x = new HawkAsks();
        for (int what = 0; what < 8; what++) {
            due.is("count(" + what + ")", x.count(what), 0);
        }
        due.is("stand(0)", x.stand(0), HawkAsks.STATE);
        due.is("hawk(0,0)", x.hawk(0, 0), HawkAsks.BAD);
        due.is("fault()", x.fault(), 0);
        due.is("status()", x.status(), 0);
        due.is("trace(0)", x.trace(0), HawkAsks.NONE);
        due.is("NONE", HawkAsks.NONE, -1000000);
        due.is("BAD", HawkAsks.BAD, -1000001);
        due.is("STATE", HawkAsks.STATE, -1000002);
        due.is("FULL", HawkAsks.FULL, -1000003);
    }

    private static void tape() {
        HawkAsks x = new HawkAsks();
        due.is("feed(-1)", x.feed(-1), HawkAsks.BAD);
        due.is("feed(256)", x.feed(256), HawkAsks.BAD);
        due.is("feed(0)", x.feed(0), 1);
        due.is("feed(255)", x.feed(255), 2);
        for (int k = 3; k <= 120; k++) {
            due.is("feed(44)", x.feed(44), k);
        }
        due.is("feed of byte 121", x.feed(44), HawkAsks.FULL);
        due.is("BAD goes ahead of FULL", x.feed(256), HawkAsks.BAD);
        due.is("count(7)", x.count(7), 120);
        due.is("castle()", x.castle(), -1000100);
        due.is("count(7) then", x.count(7), 0);
    }

    private static void goodTexts() {
        good(LAW + ANSWER + HAWK, 1);
        good("c2,1;q1,9,2;b0;", 1);
        good("c9,30;" + "q8,1,1;".repeat(6) + "m1;p2;k3;t4;b5;", 5);
        good("c09,01;q08,09,02;m09;", 1);
        HawkAsks x = Due.told("c7,12;q6,5,1;q2,3,2;t8;p0;");
        due.is("ridges", x.stand(4), 7);
        due.is("long", x.stand(5), 12);
        due.is("answers", x.count(2), 2);
        due.is("at", x.answer(0, 0), 6);
        due.is("worth", x.answer(0, 1), 5);
        due.is("drift", x.answer(1, 2), 2);
        due.is("hunger", x.hawk(0, 0), 8);
        due.is("a kite", x.kind(0), 4);
        due.is("a peregrine", x.kind(1), 2);
    }

    private static void good(String text, int hawks) {
        HawkAsks x = new HawkAsks();
        Due.tell(x, text);
        due.is("castle() of " + text, x.castle(), hawks);
        due.is("fault() of " + text, x.fault(), 0);
        due.is("count(7) behind " + text, x.count(7), 0);
    }

    private static void bad(String text, int place, int fault) {
        HawkAsks x = new HawkAsks();
        Due.tell(x, text);
        due.is("castle() of " + text, x.castle(), -1000100 - place);
        due.is("fault() of " + text, x.fault(), fault);
        due.is("count(1) behind " + text, x.count(1), 0);
        due.is("count(7) behind " + text, x.count(7), 0);
    }

    private static void faultsOfPlace() {
        bad("", 0, 1);
        bad("q", 0, 1);
        bad("C4,9;", 0, 1);
        bad("12", 0, 1);
        bad(" c4,9;", 0, 1);
        bad("c", 1, 1);
        bad("c,", 1, 1);
        bad("c123,9;", 1, 1);
        bad("c1234", 1, 1);
        bad("c4;", 2, 1);
        bad("c4,", 3, 1);
        bad("c4,9", 4, 1);
        bad("c4,9,", 4, 1);
        bad(LAW, 5, 1);
        bad(LAW + HAWK, 5, 1);
        bad(LAW + "q0;", 7, 1);
        bad(LAW + "q0,1;", 9, 1);
        bad(LAW + "q0,1,0", 11, 1);
        bad(LAW + "q0,1,0,", 11, 1);
        bad(LAW + "q000,1,0;", 6, 1);
        bad(LAW + ANSWER, 12, 1);
        bad(LAW + ANSWER + "c", 12, 1);
        bad(LAW + ANSWER + "x1;", 12, 1);
        bad(LAW + ANSWER + "5", 12, 1);
        bad(LAW + ANSWER + "555", 12, 1);
        bad(LAW + ANSWER + "m", 13, 1);
        bad(LAW + ANSWER + "m;", 13, 1);
        bad(LAW + ANSWER + "m1", 14, 1);
        bad(LAW + ANSWER + "m1,", 14, 1);
        bad(LAW + ANSWER + "m111;", 13, 1);
        bad(LAW + ANSWER + HAWK + "q0,1,0;", 15, 1);
        bad(LAW + ANSWER + HAWK + ";", 15, 1);
        bad(LAW + ANSWER + HAWK + "7", 15, 1);
        bad(LAW + ANSWER + HAWK + "m1; ", 18, 1);
        bad(LAW + ANSWER + HAWK + (char) 255, 15, 1);
    }

    private static void faultsOfNumbers() {
        bad("c1,9;", 1, 2);
        bad("c10,9;", 1, 2);
        bad("c00", 1, 2);
        bad("c4,0;", 3, 2);
        bad("c4,31;", 3, 2);
        bad(LAW + "q4,1,0;", 6, 2);
        bad(LAW + "q0,0,0;", 8, 2);
        bad(LAW + "q0,10,0;", 8, 2);
        bad(LAW + "q0,1,3;", 10, 2);
        bad(LAW + ANSWER + "k10;", 13, 2);
        bad(LAW + ANSWER + HAWK + "t99", 16, 2);
    }

    private static void faultsOfRoom() {
        bad(LAW + ANSWER.repeat(7) + HAWK, 47, 3);
        bad(LAW + ANSWER.repeat(6) + "q", 47, 3);
        bad(LAW + ANSWER.repeat(6), 47, 1);
        bad(LAW + ANSWER + HAWK.repeat(6), 27, 3);
        bad(LAW + ANSWER + HAWK.repeat(5) + "b", 27, 3);
        bad(LAW + ANSWER + HAWK.repeat(5) + "q", 27, 1);
        bad(LAW + ANSWER.repeat(6) + HAWK + "q", 50, 1);
        bad(LAW + ANSWER.repeat(7) + "x", 47, 3);
    }

    private static void faultsLeaveAll() {
        HawkAsks x = Due.told(LAW + ANSWER + "m5;");
        x.fly(0);
        Due.tell(x, "c5,3;q0,1,0;m7;m10;");
        due.is("castle() with a fault", x.castle(), -1000116);
        due.is("fault()", x.fault(), 2);
        due.is("hawk(0,0) stays", x.hawk(0, 0), 5);
        due.is("stand(4) stays", x.stand(4), 4);
        due.is("an act stays", x.count(6), 1);
        x.hours(1);
        Due.tell(x, LAW + ANSWER + "b7;");
        due.is("castle() anew", x.castle(), 1);
        due.is("fault() is yet the latest one", x.fault(), 2);
        due.is("HOUR is 0", x.count(3), 0);
        due.is("nothing is KNOWN", x.stand(2), 0);
        due.is("on the WRIST", x.hawk(0, 2), 0);
        due.is("no ACT", x.count(6), 0);
        due.is("undo()", x.undo(), HawkAsks.STATE);
        x.castle();
        due.is("fault() of an empty tape", x.fault(), 1);
    }

    private static void textsBehindTexts() {
        HawkAsks x = Due.told("c9,9;q7,9,2;q6,8,1;m1;m2;m3;");
        Due.tell(x, "c3,4;q2,5,1;k6;");
        due.is("castle() in place of another", x.castle(), 1);
        due.is("its answers", x.count(2), 1);
        due.is("its ridges", x.stand(4), 3);
        due.is("its answer", x.answer(0, 0) * 100 + x.answer(0, 1) * 10 + x.answer(0, 2), 251);
        due.is("its kind", x.kind(0), 3);
        Due.tell(x, "c3,4;q2,5,1;k6");
        due.is("the tape ahead is forgotten", x.castle(), -1000114);
        x.fly(0);
        x.hours(2);
        Due.tell(x, "c3,4;q2,5,1;t6;k7;");
        due.is("castle() behind hours", x.castle(), 2);
        due.is("HOUR", x.count(3), 0);
        due.is("on the WRIST", x.hawk(0, 2) * 100 + x.hawk(0, 1) * 10 + x.hawk(0, 3), 0);
        due.is("its answer", x.answer(0, 0) * 100 + x.answer(0, 1) * 10 + x.answer(0, 2), 251);
    }
}
