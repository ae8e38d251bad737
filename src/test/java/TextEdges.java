/** Sentences about a new object, the tape, texts and their faults: promises 1, 6, 7 and 8. */
final class TextEdges {
    private TextEdges() {
    }

    static void tell(Edges e) {
        newObject(e);
        feed(e);
        tokens(e);
        grammar(e);
        numbers(e);
        room(e);
        faults(e);
        castle(e);
        fault(e);
    }

    private static void newObject(Edges e) {
        e.edge(1, "No CASTLE.", """
            count(0) = 0 | count(1) = 0 | count(2) = 0 | count(3) = 0
            count(4) = 0 | count(5) = 0 | count(6) = 0 | count(7) = 0
            hours(1) = STATE | stand(0) = STATE | first(0) = STATE | flies(1, 0) = STATE | falconers(0, 1) = STATE
            drawn(0, 1, 0) = STATE | image(0) = STATE | restore(0) = STATE | undo() = STATE
            """);
        e.edge(1, "BAD (a number is not as told; there is no such thing)", """
            fly(0) = BAD | call(0) = BAD | starve(0, 1) = BAD | lay(0, 0) = BAD | hawk(0, 0) = BAD
            answer(0, 0) = BAD
            ahead(0, 0, 0) = BAD | later(0, 0) = BAD | known(0) = BAD | lost(0) = BAD | waits(0, 0, 0) = BAD
            starves(0, 0, 1) = BAD | nearest(0, 0) = BAD | moult(0, 0, 0, 0) = BAD | moult(0, 0, 0, 1) = BAD
            row(0, 0, 1) = 1 | who(0, 0, 0, 0, 0, 1) = BAD | what(0, 0, 0, 0, 0, 1) = BAD
            kind(0) = BAD | as(0, 0) = BAD | ask(0, 0) = BAD
            """);
        e.edge(1, "Numbers go from 0 on.", """
            text c2,9;q1,1,0;q0,2,0;m3;k4; = 2
            hawk(0, 0) = 3 | hawk(1, 0) = 4 | hawk(-1, 0) = BAD | hawk(2, 0) = BAD
            answer(0, 1) = 1 | answer(1, 1) = 2 | answer(-1, 1) = BAD | answer(2, 1) = BAD
            lay(0, 0) = 1 | lay(0, 1) = 0 | lay(0, -1) = BAD | lay(0, 2) = BAD
            """);
    }

    private static void feed(Edges e) {
        e.edge(6, "A byte (0 to 255) comes behind the tape: how many it has.", """
            feed(0) = 1 | feed(255) = 2 | feed(-1) = BAD | feed(256) = BAD | feed(MIN) = BAD | feed(MAX) = BAD
            count(7) = 2 | feed(128) = 3
            """);
        e.edge(6, "BAD; FULL.", """
            120 times feed(59) | feed(256) = BAD | feed(-1) = BAD | feed(59) = FULL | feed(0) = FULL
            """);
        e.edge(6, "THE TAPE has at most 120 bytes, that come one by one", """
            119 times feed(59) | feed(59) = 120 | feed(59) = FULL | count(7) = 120
            castle() = -1000100 | count(7) = 0 | feed(59) = 1
            """);
    }

    private static void tokens(Edges e) {
        e.edge(7, "letters a to z (each by itself)", """
            text cc4,9; = fault 1 at 1
            text C4,9; = fault 1 at 0
            text c4,9;Q0,1,0;m1; = fault 1 at 5
            text c4,9;q0,1,0;M1; = fault 1 at 12
            text c4,9;q0,1,0;mm1; = fault 1 at 13
            """);
        e.edge(7, "NUMBERS (figures, 2 at most)", """
            text c04,09;q00,01,00;m01; = 1
            stand(4) = 4 | stand(5) = 9 | answer(0, 0) = 0 | answer(0, 1) = 1 | answer(0, 2) = 0 | hawk(0, 0) = 1
            text c4,10;q0,1,0;m1; = 1
            stand(5) = 10
            text c004,9;q0,1,0;m1; = fault 1 at 1
            text c4,009;q0,1,0;m1; = fault 1 at 3
            tape c | feed(47) = 2 | castle() = -1000101
            tape c | feed(58) = 2 | castle() = -1000101
            tape c4 | feed(58) = 3 | castle() = -1000102
            """);
        e.edge(7, "SIGNS , and ; nothing else", """
            tape c4 | feed(32) = 3 | castle() = -1000102 | fault() = 1
            tape c4,9;q0,1,0;m1; | feed(10) = 16 | castle() = -1000115
            tape c4,9;q0,1,0;m1; | feed(0) = 16 | castle() = -1000115
            tape c4,9;q0,1,0;m1; | feed(255) = 16 | castle() = -1000115
            text c4.9;q0,1,0;m1; = fault 1 at 2
            text c4,-9;q0,1,0;m1; = fault 1 at 3
            """);
    }

    private static void grammar(Edges e) {
        e.edge(7, "castle: law answer { answer } hawk { hawk }", """
            castle() = -1000100 | fault() = 1
            text q0,1,0;m1; = fault 1 at 0
            text c4,9; = fault 1 at 5
            text c4,9;c4,9; = fault 1 at 5
            text c4,9;m1; = fault 1 at 5
            text c4,9;q0,1,0; = fault 1 at 12
            text c4,9;q0,1,0;c4,9; = fault 1 at 12
            text c4,9;q0,1,0;m1;q0,1,0; = fault 1 at 15
            text c4,9;q0,1,0;m1;c = fault 1 at 15
            text c4,9;q0,1,0;m1; = 1
            text c4,9;q0,1,0;q0,1,0;m1;k1; = 2
            """);
        e.edge(7, "law: c RIDGES , LONG ;", """
            text c,9; = fault 1 at 1
            text c4;9; = fault 1 at 2
            text c49; = fault 2 at 1
            text c4,;q = fault 1 at 3
            text c4,9,q = fault 1 at 4
            text c4,9q = fault 1 at 4
            """);
        e.edge(7, "answer: q AT , WORTH , DRIFT ;", """
            text c4,9;q,1,0; = fault 1 at 6
            text c4,9;q0;1,0; = fault 1 at 7
            text c4,9;q0,,0; = fault 1 at 8
            text c4,9;q0,1;0; = fault 1 at 9
            text c4,9;q0,1; = fault 1 at 9
            text c4,9;q0,1,; = fault 1 at 10
            text c4,9;q0,1,0,m1; = fault 1 at 11
            text c4,9;q0,1,0m1; = fault 1 at 11
            """);
        e.edge(7, "hawk: SORT HUNGER ;", """
            text c4,9;q0,1,0;1; = fault 1 at 12
            text c4,9;q0,1,0;; = fault 1 at 12
            text c4,9;q0,1,0;m; = fault 1 at 13
            text c4,9;q0,1,0;m1, = fault 1 at 14
            text c4,9;q0,1,0;m1k1; = fault 1 at 14
            """);
        e.edge(7, "(SORT: m a merlin, p a peregrine, k a kestrel, t a kite, b a blind one; 0 to 9;", """
            text c4,9;q0,1,0;m0;p9;k1;t2;b3; = 5
            kind(0) = 1 | kind(1) = 2 | kind(2) = 3 | kind(3) = 4 | kind(4) = 5
            hawk(0, 0) = 0 | hawk(1, 0) = 9
            text c4,9;q0,1,0;m10; = fault 2 at 13
            text c4,9;q0,1,0;m1;p10; = fault 2 at 16
            text c4,9;q0,1,0;a1; = fault 1 at 12
            text c4,9;q0,1,0;c1; = fault 1 at 12
            text c4,9;q0,1,0;l1; = fault 1 at 12
            text c4,9;q0,1,0;n1; = fault 1 at 12
            text c4,9;q0,1,0;o1; = fault 1 at 12
            text c4,9;q0,1,0;s1; = fault 1 at 12
            text c4,9;q0,1,0;u1; = fault 1 at 12
            text c4,9;q0,1,0;z1; = fault 1 at 12
            """);
    }

    private static void numbers(Edges e) {
        e.edge(7, "(2 to 9: RIDGES 0 .., the castle is on 0;", """
            text c2,9;q1,1,0;m1; = 1
            stand(4) = 2 | nearest(1, 1) = 0 | nearest(2, 1) = BAD
            text c9,9;q8,1,0;m1; = 1
            stand(4) = 9 | nearest(8, 1) = 0 | nearest(9, 1) = BAD | hawk(0, 1) = 0
            text c0,9; = fault 2 at 1
            text c1,9; = fault 2 at 1
            text c10,9; = fault 2 at 1
            text c99,9; = fault 2 at 1
            """);
        e.edge(7, "1 to 30 HOURS)", """
            text c4,1;q0,1,0;m1; = 1
            stand(5) = 1
            text c4,30;q0,1,0;m1; = 1
            stand(5) = 30
            text c4,0;q0,1,0;m1; = fault 2 at 3
            text c4,31;q0,1,0;m1; = fault 2 at 3
            text c4,99;q0,1,0;m1; = fault 2 at 3
            """);
        e.edge(7, "(a RIDGE; 1 to 9; 0 stays, 1 goes up, 2 goes down;", """
            text c4,9;q0,1,0;q3,9,2;m1; = 1
            answer(0, 0) = 0 | answer(0, 1) = 1 | answer(0, 2) = 0
            answer(1, 0) = 3 | answer(1, 1) = 9 | answer(1, 2) = 2
            text c4,9;q4,1,0;m1; = fault 2 at 6
            text c4,9;q10,1,0;m1; = fault 2 at 6
            text c9,9;q9,1,0;m1; = fault 2 at 6
            text c2,9;q2,1,0;m1; = fault 2 at 6
            text c4,9;q0,0,0;m1; = fault 2 at 8
            text c4,9;q0,10,0;m1; = fault 2 at 8
            text c4,9;q0,1,3;m1; = fault 2 at 10
            text c4,9;q0,1,10;m1; = fault 2 at 10
            """);
    }

    private static void room(Edges e) {
        e.edge(7, "ANSWERS 0 .. 5, 6 at most", """
            text c4,9;q0,1,0;q0,2,0;q0,3,0;q0,4,0;q0,5,0;q1,6,0;m1; = 1
            count(2) = 6 | answer(5, 1) = 6 | answer(6, 1) = BAD | nearest(1, 0) = 5
            text c4,9;q0,1,0;q0,2,0;q0,3,0;q0,4,0;q0,5,0;q1,6,0;p1; = 1
            hawk(0, 4) = 5 | fly(0) = {0} | hours(1) = 6 | stand(2) = {5}
            text c4,9;q0,1,0;q0,2,0;q0,3,0;q0,4,0;q0,5,0;q1,6,0;q1,6,0;m1; = fault 3 at 47
            """);
        e.edge(7, "HAWKS 0 .. 4, 5 at most", """
            text c4,9;q0,1,0;m1;m2;m3;m4;m5; = 5
            count(1) = 5 | hawk(4, 0) = 5 | hawk(5, 0) = BAD
            text c4,9;q0,1,0;m1;m2;m3;m4;m5;m6; = fault 3 at 27
            """);
        e.edge(7, "3 an answer, a hawk more than there is room for (its letter)", """
            text c4,9;q0,1,0;q0,1,0;q0,1,0;q0,1,0;q0,1,0;q0,1,0;q = fault 3 at 47
            text c4,9;q0,1,0;q0,1,0;q0,1,0;q0,1,0;q0,1,0;q0,1,0;qqq = fault 3 at 47
            text c4,9;q0,1,0;q0,1,0;q0,1,0;q0,1,0;q0,1,0;q0,1,0;q9,0,7; = fault 3 at 47
            text c4,9;q0,1,0;m1;m1;m1;m1;m1;b = fault 3 at 27
            text c4,9;q0,1,0;m1;m1;m1;m1;m1;p99; = fault 3 at 27
            text c09,30;q08,09,02;q08,09,02;q08,09,02;q08,09,02;q08,09,02;q08,09,02;m09;p09;k09;t09;b09; = 5
            """);
    }

    private static void faults(Edges e) {
        e.edge(7, "FAULTS, the first TOKEN that has one (its first byte)", """
            text c1,0;x = fault 2 at 1
            text c4,31x = fault 2 at 3
            text c4,9;q4,0,3;m1; = fault 2 at 6
            text c4;99 = fault 1 at 2
            text c4,9;q0,1,0;m10;x = fault 2 at 13
            """);
        e.edge(7, "of one TOKEN the least: 1 it cannot stand there", """
            text c4,9;q0,1,0;q0,1,0;q0,1,0;q0,1,0;q0,1,0;q0,1,0;m1;q = fault 1 at 50
            text c4,9;q0,1,0;m1;m1;m1;m1;m1;q = fault 1 at 27
            text c4,9;q0,1,0;m1;m1;m1;m1;m1;x = fault 1 at 27
            text c4,9;q0,1,0;q0,1,0;q0,1,0;q0,1,0;q0,1,0;q0,1,0;x = fault 1 at 47
            text c100,9; = fault 1 at 1
            text 99 = fault 1 at 0
            text c4,9;99 = fault 1 at 5
            """);
        e.edge(7, "(a run of three figures, at its first;", """
            text c123,9; = fault 1 at 1
            text c4,123 = fault 1 at 3
            text c4,9;q0,1,0;m001; = fault 1 at 13
            text c0009,9; = fault 1 at 1
            text c4,9;q0,1,0;m1;555 = fault 1 at 15
            text c4,12345678901234567890; = fault 1 at 3
            """);
        e.edge(7, "the end: how many bytes there are)", """
            castle() = -1000100 | fault() = 1
            text c = fault 1 at 1
            text c4 = fault 1 at 2
            text c4, = fault 1 at 3
            text c4,30 = fault 1 at 5
            text c4,9;q = fault 1 at 6
            text c4,9;q0,1,0 = fault 1 at 11
            text c4,9;q0,1,0;m = fault 1 at 13
            text c4,9;q0,1,0;m1 = fault 1 at 14
            text c4,9;q0,1,0;m1;k = fault 1 at 16
            text c4,9;q0,1,0;q0,1,0;q0,1,0;q0,1,0;q0,1,0;q0,1,0; = fault 1 at 47
            """);
        e.edge(7, "2 a NUMBER that is not as told", """
            text c1 = fault 2 at 1
            text c44 = fault 2 at 1
            text c4,00; = fault 2 at 3
            text c4,9;q04 = fault 2 at 6
            text c4,9;q0,1,0;m99 = fault 2 at 13
            """);
    }

    private static void castle(Edges e) {
        e.edge(7, "The tape, empty then, is read: how many HAWKS there are.", """
            text c4,9;q0,1,0;m1; = 1
            count(7) = 0
            text c4,9;q0,1,0;m1;m1;m1;m1;m1; = 5
            count(7) = 0 | castle() = -1000100
            tape c4,9; | castle() = -1000105 | count(7) = 0
            tape q0,1,0;m1; | castle() = -1000100
            """);
        e.edge(7, "-1000100 less the place of a FAULT: all stays.", """
            text c4,9;q0,1,1;q3,9,0;m5;t1; = 2
            image(0) = 1 | fly(1) = {1} | hours(2) = 0 | row(0, 0, 3) = 3 | ask(1, 0) = -99
            text c2,1;q1,9,2;q1,9,2;q1,9,2;b9;b9;b9;m10; = fault 2 at 36
            stand(0) = {1} | stand(4) = 4 | stand(5) = 9 | count(0) = 1 | count(1) = 2 | count(2) = 2 | count(3) = 2
            count(6) = 3 | hawk(0, 0) = 5 | hawk(1, 0) = 1 | hawk(1, 1) = 2 | hawk(1, 3) = 2 | kind(0) = 1
            answer(0, 0) = 2 | answer(0, 1) = 1 | answer(0, 2) = 1 | trace(0) = 13
            undo() = 2 | count(3) = 1 | restore(0) = 1 | count(3) = 0
            """);
        e.edge(7, "A CASTLE that is read stands in place of the one before (none at first)", """
            stand(4) = STATE
            text c9,30;q8,9,2;q7,8,1;m1;m2;m3; = 3
            text c3,4;q2,5,1;k6; = 1
            count(1) = 1 | count(2) = 1 | stand(4) = 3 | stand(5) = 4 | kind(0) = 3 | hawk(0, 0) = 6
            answer(0, 0) = 2 | answer(0, 1) = 5 | answer(0, 2) = 1 | hawk(1, 0) = BAD | answer(1, 0) = BAD
            text c9,9;q8,1,0;q8,2,0;q1,9,0;q0,9,0;p1;p1; = 2
            text c9,9;q1,3,0;p1; = 1
            hawk(0, 4) = 0 | nearest(8, 0) = 0 | fly(0) = {0} | hours(1) = 3 | hawk(0, 4) = NONE | nearest(8, 0) = NONE
            """);
        e.edge(7, "HOUR 0, all HAWKS are on the WRIST, nothing is KNOWN; no ACT can be undone", """
            text c3,2;q0,1,0;q1,9,1;k9;t1;m1; = 3
            fly(0) = {0} | fly(1) = {0 1} | hours(2) = 1 | stand(1) = {1} | stand(0) = {0} | count(6) = 4
            text c3,2;q0,1,0;q1,9,1;k9;t1;m1; = 3
            count(3) = 0 | stand(0) = {} | stand(1) = {} | stand(2) = {} | stand(3) = 0
            hawk(0, 0) = 9 | hawk(0, 2) = 0 | hawk(1, 1) = 0 | hawk(1, 2) = 0 | hawk(0, 3) = 0
            answer(1, 0) = 1 | answer(1, 2) = 1 | count(6) = 0 | undo() = STATE
            """);
    }

    private static void fault(Edges e) {
        e.edge(8, "The number of the latest FAULT; 0 before one.", """
            fault() = 0
            text c4,9;q0,1,0;m1; = 1
            fault() = 0 | feed(300) = BAD | hours(0) = BAD | fault() = 0
            text c1 = fault 2 at 1
            text c4,9;q0,1,0;m1; = 1
            fault() = 2
            text c4,9;q0,1,0;m1;m1;m1;m1;m1;m1; = fault 3 at 27
            castle() = -1000100 | fault() = 1 | feed(99) = 1 | fault() = 1
            """);
    }
}
