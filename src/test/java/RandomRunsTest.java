import java.util.Random;
import java.util.function.LongSupplier;

/** Promises 1 to 39: long runs of calls, drawn by fixed seeds, each answer compared with the Model's. */
public final class RandomRunsTest {
    private static final Due due = new Due("RandomRunsTest");
    private static final int RUNS = 800, CALLS = 480;

    private final Random random;
    private final int run;
    private final HawkAsks x = new HawkAsks();
    private final Model m = new Model();

    private RandomRunsTest(int run) {
        this.run = run;
        this.random = new Random(run);
    }

    /** Other runs than those of every day: their first seed and how many. */
    public static void main(String[] args) {
        int first = args.length > 1 ? Integer.parseInt(args[0]) : 0;
        int runs = args.length > 1 ? Integer.parseInt(args[1]) : RUNS;
        for (int run = first; run < first + runs; run++) {
            new RandomRunsTest(run).calls();
        }
        due.end();
    }

    private void calls() {
        int left = CALLS;
        while (left > 0) {
            boolean text = random.nextInt(m.now == null ? 3 : 150) == 0;
            left -= text ? tellText() : oneCall();
        }
    }

    private static long reply(LongSupplier call) {
        try {
            return call.getAsLong();
        } catch (Model.Refusal refusal) {
            return refusal.reply;
        }
    }

    private int same(String call, long got, LongSupplier model) {
        due.is("run " + run + ": " + call, got, reply(model));
        return 1;
    }

    private int tellText() {
        String text = random.nextInt(4) == 0 ? spoilt(goodText()) : goodText();
        for (int i = 0; i < text.length(); i++) {
            char c = text.charAt(i);
            same("feed(" + (int) c + ")", x.feed(c), () -> m.feed(c));
        }
        same("castle() of " + text, x.castle(), m::castle);
        return text.length() + 1;
    }

    private String goodText() {
        int ridges = 2 + random.nextInt(8);
        StringBuilder text = new StringBuilder("c" + ridges + "," + (1 + random.nextInt(random.nextBoolean() ? 30 : 9)) + ";");
        for (int k = random.nextInt(6); k >= 0; k--) {
            text.append("q" + random.nextInt(ridges) + "," + (1 + random.nextInt(9)) + "," + random.nextInt(3) + ";");
        }
        for (int k = random.nextInt(5); k >= 0; k--) {
            text.append("mpktb".charAt(random.nextInt(5))).append(random.nextInt(10)).append(';');
        }
        return text.toString();
    }

    private String spoilt(String text) {
        StringBuilder b = new StringBuilder(text);
        int at = random.nextInt(b.length());
        String some = "cqmpktbx0123456789,;,; ";
        char c = some.charAt(random.nextInt(some.length()));
        switch (random.nextInt(5)) {
            case 0: b.setCharAt(at, c); break;
            case 1: b.insert(at, c); break;
            case 2: b.deleteCharAt(at); break;
            case 3: b.setLength(at); break;
            default: b.append(random.nextBoolean() ? "q0,1,0;" : "m1;m1;m1;m1;m1;"); break;
        }
        return b.toString();
    }

    /** A number in a range, now and then one beyond it, or the least or greatest there is. */
    private int some(int least, int most) {
        switch (random.nextInt(100)) {
            case 0: return random.nextInt();
            case 1: return least - 1;
            case 2: return most + 1;
            case 3: return Integer.MIN_VALUE + random.nextInt(2);
            case 4: return Integer.MAX_VALUE - random.nextInt(2);
            default: return least + random.nextInt(most - least + 1);
        }
    }

    private int hawk() {
        return some(0, Math.max(1, m.now == null ? 1 : m.now.birds.size()) - 1);
    }

    private int quest() {
        return some(0, Math.max(1, m.now == null ? 1 : m.now.quests.size()) - 1);
    }

    private int ridge() {
        return some(0, m.now == null ? 1 : m.now.ridges - 1);
    }

    private int oneCall() {
        switch (random.nextInt(11)) {
            case 0: return rowCall();
            case 1: return toldCall();
            case 2:
            case 3:
            case 4: return doneCall();
            case 5: return seenCall();
            case 6: return nearCall();
            case 7: return searchCall();
            case 8: return bellCall();
            case 9: return askedCall();
            default: return seenCall();
        }
    }

    private int rowCall() {
        int a = some(0, 7), b = some(0, 7), i = some(0, 12), j = some(0, 12), n = some(0, 12), v = some(-1, 9);
        switch (random.nextInt(7)) {
            case 0:
            case 1: {
                int lane = some(0, 2), size = some(0, 40);
                return same("row(" + a + "," + lane + "," + size + ")", x.row(a, lane, size), () -> m.row(a, lane, size));
            }
            case 2: {
                int wide = random.nextInt() >> random.nextInt(32);
                return same("set(" + a + "," + i + "," + wide + ")", x.set(a, i, wide), () -> m.set(a, i, wide));
            }
            case 3: return same("set(" + a + "," + i + "," + v + ")", x.set(a, i, v), () -> m.set(a, i, v));
            case 4:
            case 5: return same("copy(" + a + "," + i + "," + b + "," + j + "," + n + ")",
                x.copy(a, i, b, j, n), () -> m.copy(a, i, b, j, n));
            default: return random.nextInt(3) > 0 ? 0
                : same("drop(" + a + ")", x.drop(a), () -> m.drop(a));
        }
    }

    private int toldCall() {
        switch (random.nextInt(30)) {
            case 0: {
                int letter = some(0, 255);
                return same("feed(" + letter + ")", x.feed(letter), () -> m.feed(letter));
            }
            case 1: return same("castle()", x.castle(), m::castle);
            case 2: return same("fault()", x.fault(), () -> m.fault);
            case 3: return same("status()", x.status(), () -> m.status);
            case 4: {
                int k = some(0, 1);
                return same("restore(" + k + ")", x.restore(k), () -> m.restore(k));
            }
            case 5:
            case 6: {
                int k = some(0, 1);
                return same("image(" + k + ")", x.image(k), () -> m.image(k));
            }
            default: return same("undo()", x.undo(), m::undo);
        }
    }

    private int doneCall() {
        int h = hawk(), a = quest();
        switch (random.nextInt(8)) {
            case 0: {
                int n = some(1, random.nextInt(8) == 0 ? 24 : 2);
                return same("hours(" + n + ")", x.hours(n), () -> m.hours(n));
            }
            case 1:
            case 2: return same("hours(1)", x.hours(1), () -> m.hours(1));
            case 3:
            case 4: return same("fly(" + h + ")", x.fly(h), () -> m.fly(h));
            case 5: return same("call(" + h + ")", x.call(h), () -> m.call(h));
            case 6: {
                int v = some(0, 9);
                return same("starve(" + h + "," + v + ")", x.starve(h, v), () -> m.starve(h, v));
            }
            default: {
                int r = ridge();
                return same("lay(" + a + "," + r + ")", x.lay(a, r), () -> m.lay(a, r));
            }
        }
    }

    private int seenCall() {
        int h = hawk(), a = quest();
        switch (random.nextInt(4)) {
            case 0: {
                int what = some(0, 5);
                return same("hawk(" + h + "," + what + ")", x.hawk(h, what), () -> m.hawk(h, what));
            }
            case 1: {
                int what = some(0, 3);
                return same("answer(" + a + "," + what + ")", x.answer(a, what), () -> m.answer(a, what));
            }
            case 2: {
                int what = some(0, 5);
                return same("stand(" + what + ")", x.stand(what), () -> m.stand(what));
            }
            default: {
                int what = some(0, 7);
                return same("count(" + what + ")", x.count(what), () -> m.count(what));
            }
        }
    }

    private int nearCall() {
        int h = hawk(), a = quest(), n = some(0, 60), what = some(0, 1), r = ridge();
        switch (random.nextInt(6)) {
            case 0: return same("ahead(" + h + "," + n + "," + what + ")", x.ahead(h, n, what), () -> m.ahead(h, n, what));
            case 1: return same("later(" + a + "," + n + ")", x.later(a, n), () -> m.later(a, n));
            case 2: return same("known(" + a + ")", x.known(a), () -> m.known(a));
            case 3: return same("lost(" + h + ")", x.lost(h), () -> m.lost(h));
            case 4: return same("first(" + what + ")", x.first(what), () -> m.first(what));
            default: return same("nearest(" + r + "," + what + ")", x.nearest(r, what), () -> m.nearest(r, what));
        }
    }

    private int searchCall() {
        int h = hawk(), a = quest(), n = some(1, 60), what = some(0, 1);
        switch (random.nextInt(6)) {
            case 0: return same("flies(" + n + "," + what + ")", x.flies(n, what), () -> m.flies(n, what));
            case 1: return same("waits(" + h + "," + a + "," + what + ")", x.waits(h, a, what), () -> m.waits(h, a, what));
            case 2: {
                int hours = some(1, 30);
                return same("starves(" + h + "," + a + "," + hours + ")", x.starves(h, a, hours), () -> m.starves(h, a, hours));
            }
            case 3: {
                int turns = some(0, 4), hours = some(1, 20);
                return same("falconers(" + turns + "," + hours + ")", x.falconers(turns, hours), () -> m.falconers(turns, hours));
            }
            case 4: {
                int p = some(0, 10), hours = some(0, 60);
                return same("moult(" + a + "," + hours + "," + p + "," + what + ")",
                    x.moult(a, hours, p, what), () -> m.moult(a, hours, p, what));
            }
            default: {
                int seed = some(1, 999999), hours = some(0, 60);
                return same("drawn(" + hours + "," + seed + "," + what + ")",
                    x.drawn(hours, seed, what), () -> m.drawn(hours, seed, what));
            }
        }
    }

    /** Puts the ridges that a hawk will be on into a row, most times, and asks what fits. */
    private int bellCall() {
        int h = hawk(), a = quest(), other = hawk(), row = some(0, 7), i = some(0, 3), n = some(1, 12), which = some(0, 1);
        int calls = 0;
        boolean real = m.now != null && other >= 0 && other < m.now.birds.size() && row >= 0 && row < 8
            && n > 0 && n < 13 && i >= 0 && i < 9;
        if (real && random.nextInt(4) > 0) {
            int size = i + n + random.nextInt(3), lane = random.nextInt(3);
            calls += same("row", x.row(row, lane, size), () -> m.row(row, lane, size));
            Model.World w = m.now.twin();
            for (int k = 0; k < n; k++) {
                int item = i + k, v = random.nextInt(20) == 0 ? some(0, 8) : w.pass().birds.get(other).at;
                calls += same("set", x.set(row, item, v), () -> m.set(row, item, v));
            }
        }
        String rest = "," + which + "," + other + "," + row + "," + i + "," + n + ")";
        if (random.nextBoolean()) {
            return calls + same("who(" + h + rest, x.who(h, which, other, row, i, n),
                () -> m.who(h, which, other, row, i, n));
        }
        return calls + same("what(" + a + rest, x.what(a, which, other, row, i, n),
            () -> m.what(a, which, other, row, i, n));
    }

    private int askedCall() {
        int h = hawk();
        switch (random.nextInt(5)) {
            case 0: return same("kind(" + h + ")", x.kind(h), () -> m.kind(h));
            case 1: {
                int kind = some(0, 5);
                same("as(" + h + "," + kind + ")", x.as(h, kind), () -> m.as(h, kind));
                return 1 + same("status()", x.status(), () -> m.status);
            }
            default: {
                int what = some(0, 1);
                same("ask(" + h + "," + what + ")", x.ask(h, what), () -> m.ask(h, what));
                for (int i = -1; i < 7; i++) {
                    int at = i;
                    same("trace(" + i + ")", x.trace(i), () -> m.trace(at));
                }
                return 9;
            }
        }
    }
}
