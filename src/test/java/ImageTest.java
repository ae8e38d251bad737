/** Promises 32 and 33: images of the castle. */
public final class ImageTest {
    private static final Due due = new Due("ImageTest");
    private static final int BAD = HawkAsks.BAD, STATE = HawkAsks.STATE;

    public static void main(String[] args) {
        refused();
        kept();
        due.end();
    }

    private static void refused() {
        HawkAsks x = new HawkAsks();
        due.is("image(-1)", x.image(-1), BAD);
        due.is("image(2)", x.image(2), BAD);
        due.is("image(0) without a castle", x.image(0), STATE);
        due.is("restore(-1)", x.restore(-1), BAD);
        due.is("restore(2)", x.restore(2), BAD);
        due.is("restore(0), none was kept", x.restore(0), STATE);
        Due.tell(x, "c3,9;q1,2,0;m5;");
        x.castle();
        due.is("restore(0), none was kept yet", x.restore(0), STATE);
        due.is("image(1)", x.image(1), 1);
        due.is("restore(0), the other was kept", x.restore(0), STATE);
        due.is("restore(1)", x.restore(1), 1);
    }

    private static void kept() {
        HawkAsks x = Due.told("c3,9;q1,2,1;q2,4,0;m5;k1;");
        x.fly(0);
        x.hours(2);
        String two = Due.seen(x);
        due.is("image(0)", x.image(0), 1);
        due.is("acts stay", x.count(6), 3);
        x.hours(1);
        x.fly(1);
        String three = Due.seen(x);
        x.image(1);
        due.is("restore(0)", x.restore(0), 1);
        due.is("as it was", Due.seen(x).equals(two) ? 1 : 0, 1);
        due.is("no act", x.count(6), 0);
        due.is("undo()", x.undo(), STATE);
        x.starve(0, 9);
        due.is("restore(0) again", x.restore(0), 1);
        due.is("an image stays", Due.seen(x).equals(two) ? 1 : 0, 1);
        Due.tell(x, "c9,1;q8,9,2;t1;t2;t3;");
        x.castle();
        due.is("restore(1) in place of another castle", x.restore(1), 1);
        due.is("as it was", Due.seen(x).equals(three) ? 1 : 0, 1);
        due.is("count(1)", x.count(1), 2);
        due.is("count(3)", x.count(3), 3);
        due.is("image(0) anew", x.image(0), 1);
        x.hours(1);
        x.restore(0);
        due.is("the later image", Due.seen(x).equals(three) ? 1 : 0, 1);
    }
}
