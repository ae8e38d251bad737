/** Compares answers with those that are due, and ends a test by them. */
final class Due {
    private final String test;
    private int asked;
    private int wrong;

    Due(String test) {
        this.test = test;
    }

    void is(String call, long got, long want) {
        asked++;
        if (got != want) {
            wrong++;
            System.out.println(test + ": " + call + " answered " + got + ", due is " + want);
        }
    }

    void end() {
        System.out.println(test + ": " + (asked - wrong) + " of " + asked + " answers are as due");
        if (wrong != 0 || asked == 0) {
            System.exit(1);
        }
    }

    static void tell(HawkAsks x, String text) {
        for (int i = 0; i < text.length(); i++) {
            x.feed(text.charAt(i));
        }
    }

    /** A new object with the castle of a text. */
    static HawkAsks told(String text) {
        HawkAsks x = new HawkAsks();
        tell(x, text);
        if (x.castle() < 0) {
            throw new IllegalStateException("a test's own text has a fault: " + text);
        }
        return x;
    }

    /** Puts a bell into a row. */
    static void bell(HawkAsks x, int row, int... ridges) {
        x.row(row, 2, ridges.length);
        for (int i = 0; i < ridges.length; i++) {
            x.set(row, i, ridges[i]);
        }
    }

    /** All that can be seen of the castle, but for the acts that can be undone. */
    static String seen(HawkAsks x) {
        StringBuilder all = new StringBuilder();
        for (int what = 0; what < 6; what++) {
            all.append(x.count(what)).append(' ').append(x.stand(what)).append(' ');
        }
        for (int h = 0; h < x.count(1); h++) {
            all.append("h ").append(x.kind(h)).append(' ');
            for (int what = 0; what < 6; what++) {
                all.append(x.hawk(h, what)).append(' ');
            }
        }
        for (int a = 0; a < x.count(2); a++) {
            all.append("q ");
            for (int what = 0; what < 4; what++) {
                all.append(x.answer(a, what)).append(' ');
            }
        }
        return all.toString();
    }
}
