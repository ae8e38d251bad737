import java.math.BigInteger;
import java.util.ArrayDeque;
import java.util.ArrayList;
import java.util.Comparator;
import java.util.Deque;
import java.util.List;
import java.util.function.Consumer;
import java.util.function.Predicate;
import java.util.function.ToIntFunction;
import java.util.stream.IntStream;

/**
 * The document told a second time, another way than in the class: worlds are copied, never reused, rows are
 * Java's own arrays, asks are Java's own methods. It throws Refusal where the class answers a refusal.
 */
final class Model {
    static final int NONE = -1000000, BAD = -1000001, STATE = -1000002, FULL = -1000003;

    static final class Refusal extends RuntimeException {
        private static final long serialVersionUID = 1;
        final int reply;

        Refusal(int reply) {
            super(null, null, false, false);
            this.reply = reply;
        }
    }

    static final class Quest {
        int at, worth, drift, taker = -1;

        boolean open() {
            return taker < 0;
        }
    }

    static final class Bird {
        char sort;
        int number, hunger, at, aloft;
        boolean flown, lost;

        boolean wrist() {
            return !flown && !lost;
        }

        void home() {
            flown = false;
            at = 0;
            aloft = 0;
        }

        void away() {
            home();
            flown = true;
        }
    }

    static final class World {
        int ridges, longest, hour;
        final List<Quest> quests = new ArrayList<>();
        final List<Bird> birds = new ArrayList<>();

        World twin() {
            World w = new World();
            w.ridges = ridges;
            w.longest = longest;
            w.hour = hour;
            for (Quest q : quests) {
                Quest t = new Quest();
                t.at = q.at;
                t.worth = q.worth;
                t.drift = q.drift;
                t.taker = q.taker;
                w.quests.add(t);
            }
            for (Bird b : birds) {
                Bird t = new Bird();
                t.sort = b.sort;
                t.number = b.number;
                t.hunger = b.hunger;
                t.at = b.at;
                t.aloft = b.aloft;
                t.flown = b.flown;
                t.lost = b.lost;
                w.birds.add(t);
            }
            return w;
        }

        Quest best(Predicate<Quest> which, Comparator<Quest> order) {
            return quests.stream().filter(Quest::open).filter(which).min(order).orElse(null);
        }

        Quest goal(Bird b) {
            Comparator<Quest> near = Comparator.comparingInt(q -> Math.abs(q.at - b.at));
            Comparator<Quest> rich = Comparator.comparingInt(q -> -q.worth);
            if (b.sort == 'm') {
                return best(q -> true, near);
            }
            return b.sort == 'p' ? best(q -> true, rich.thenComparing(near)) : null;
        }

        Quest prey(Bird b) {
            return best(q -> q.at == b.at && (b.sort == 'p' || (b.sort == 't' || b.sort == 'b'
                    ? q.worth < b.hunger : q.worth <= b.hunger)), Comparator.comparingInt(q -> -q.worth));
        }

        void move(Bird b) {
            if (b.sort == 't') {
                b.at = (b.at + 1) % ridges;
            } else if (b.sort == 'b') {
                b.at = Math.max(0, b.at - 1);
            } else {
                Quest q = goal(b);
                for (int step = 0; q != null && step < (b.sort == 'p' ? 2 : 1); step++) {
                    b.at += Integer.signum(q.at - b.at);
                }
            }
        }

        World pass() {
            for (Quest q : quests) {
                if (q.open() && q.drift != 0) {
                    int to = q.at + (q.drift == 1 ? 1 : -1);
                    if (to < 0 || to == ridges) {
                        q.drift = 3 - q.drift;
                        to = q.at + (q.drift == 1 ? 1 : -1);
                    }
                    q.at = to;
                }
            }
            List<Bird> fed = new ArrayList<>();
            for (Bird b : birds) {
                if (!b.flown) {
                    continue;
                }
                Quest q = null;
                if (b.hunger > 0) {
                    move(b);
                    q = prey(b);
                }
                if (q != null) {
                    q.taker = b.number;
                    b.hunger = Math.max(0, b.hunger - q.worth);
                    b.aloft = 0;
                    fed.add(b);
                } else if (++b.aloft == longest) {
                    b.flown = false;
                    b.lost = true;
                }
            }
            if (hour % 3 == 2) {
                birds.stream().filter(b -> !b.lost && !fed.contains(b) && b.hunger < 9).forEach(b -> b.hunger++);
            }
            hour++;
            return this;
        }

        World pass(int n) {
            for (int k = 0; k < n; k++) {
                pass();
            }
            return this;
        }

        int worth() {
            return quests.stream().filter(q -> !q.open()).mapToInt(q -> q.worth).sum();
        }

        int bits(Predicate<Bird> which) {
            return birds.stream().filter(which).mapToInt(b -> 1 << b.number).sum();
        }
    }

    World now;
    final World[] images = new World[2];
    final Deque<World> past = new ArrayDeque<>();
    final Object[] rows = new Object[8];
    final StringBuilder tape = new StringBuilder();
    int fault, status;
    List<Integer> trace = List.of();

    // ---- helpers

    static void need(boolean good, int reply) {
        if (!good) {
            throw new Refusal(reply);
        }
    }

    static void range(int v, int least, int most) {
        need(v >= least && v <= most, BAD);
    }

    private void find(boolean good, int finding) {
        if (!good) {
            status = finding;
            throw new Refusal(-1000010 - finding);
        }
    }

    private Bird bird(int h) {
        need(now != null && h >= 0 && h < now.birds.size(), BAD);
        return now.birds.get(h);
    }

    private Quest quest(int a) {
        need(now != null && a >= 0 && a < now.quests.size(), BAD);
        return now.quests.get(a);
    }

    private void castleStands() {
        need(now != null, STATE);
    }

    private void act() {
        past.push(now);
        now = now.twin();
        if (past.size() > 24) {
            past.removeLast();
        }
    }

    private static int size(Object row) {
        return row instanceof byte[] b ? b.length : row instanceof short[] s ? s.length : ((int[]) row).length;
    }

    private static int item(Object row, int i) {
        return row instanceof byte[] b ? b[i] : row instanceof short[] s ? s[i] : ((int[]) row)[i];
    }

    // ---- rows

    int row(int row, int lane, int n) {
        range(row, 0, 7);
        range(lane, 0, 2);
        need(n <= 40, BAD);
        find(n >= 0, 4);
        rows[row] = lane == 0 ? new byte[n] : lane == 1 ? new short[n] : new int[n];
        status = 0;
        return n;
    }

    int set(int row, int i, int v) {
        range(row, 0, 7);
        find(rows[row] != null, 1);
        find(i >= 0 && i < size(rows[row]), 2);
        if (rows[row] instanceof byte[] b) {
            b[i] = (byte) v;
        } else if (rows[row] instanceof short[] s) {
            s[i] = (short) v;
        } else if (rows[row] instanceof int[] all) {
            all[i] = v;
        }
        status = 0;
        return item(rows[row], i);
    }

    int copy(int a, int i, int b, int j, int n) {
        range(a, 0, 7);
        range(b, 0, 7);
        try {
            System.arraycopy(rows[a], i, rows[b], j, n);
        } catch (NullPointerException e) {
            find(false, 1);
        } catch (ArrayStoreException e) {
            find(false, 5);
        } catch (IndexOutOfBoundsException e) {
            find(false, 2);
        }
        status = 0;
        return n;
    }

    int drop(int row) {
        range(row, 0, 7);
        find(rows[row] != null, 1);
        int had = size(rows[row]);
        rows[row] = null;
        status = 0;
        return had;
    }

    // ---- told

    int feed(int letter) {
        range(letter, 0, 255);
        need(tape.length() < 120, FULL);
        return tape.append((char) letter).length();
    }

    /** Reads by a table of what may come next: each step is a letter of what is due. */
    int castle() {
        String text = tape.toString();
        tape.setLength(0);
        World w = new World();
        int at = 0;
        String due = "cR,L;q";
        while (true) {
            if (due.equals("END?") && at == text.length()) {
                break;
            }
            char c = at < text.length() ? text.charAt(at) : 0;
            int end = at;
            while (end < text.length() && text.charAt(end) >= '0' && text.charAt(end) <= '9') {
                end++;
            }
            boolean ripe = due.equals("MORE?") || due.equals("END?");
            if (ripe || due.equals("q")) {
                boolean q = c == 'q' && !due.equals("END?");
                boolean hawk = c != 0 && "mpktb".indexOf(c) >= 0 && ripe;
                if (!q && !hawk) {
                    return faulty(at, 1);
                }
                if (q && w.quests.size() == 6 || hawk && w.birds.size() == 5) {
                    return faulty(at, 3);
                }
                if (q) {
                    w.quests.add(new Quest());
                } else {
                    Bird b = new Bird();
                    b.sort = c;
                    b.number = w.birds.size();
                    w.birds.add(b);
                }
                due = q ? "A,W,D;M" : "H;E";
                at++;
                continue;
            }
            char d = due.charAt(0);
            if (d < 'A' || d > 'Z') {
                if (c != d) {
                    return faulty(at, 1);
                }
                at++;
            } else {
                if (end == at || end - at > 2) {
                    return faulty(at, 1);
                }
                int v = Integer.parseInt(text.substring(at, end));
                if (!store(w, d, v)) {
                    return faulty(at, 2);
                }
                at = end;
            }
            due = due.substring(1);
            due = due.equals("M") ? "MORE?" : due.equals("E") ? "END?" : due;
        }
        now = w;
        past.clear();
        return w.birds.size();
    }

    private static boolean store(World w, char d, int v) {
        Quest q = w.quests.isEmpty() ? null : w.quests.get(w.quests.size() - 1);
        switch (d) {
            case 'R': w.ridges = v; return v >= 2 && v <= 9;
            case 'L': w.longest = v; return v >= 1 && v <= 30;
            case 'A': q.at = v; return v < w.ridges;
            case 'W': q.worth = v; return v >= 1 && v <= 9;
            case 'D': q.drift = v; return v <= 2;
            default: w.birds.get(w.birds.size() - 1).hunger = v; return v <= 9;
        }
    }

    private int faulty(int place, int number) {
        fault = number;
        return -1000100 - place;
    }

    int undo() {
        need(!past.isEmpty(), STATE);
        now = past.pop();
        return past.size();
    }

    // ---- done

    int hours(int n) {
        castleStands();
        range(n, 1, 24);
        need(now.hour + n <= 999, FULL);
        for (int k = 0; k < n; k++) {
            act();
            now.pass();
        }
        return now.worth();
    }

    int fly(int h) {
        need(bird(h).wrist(), STATE);
        act();
        bird(h).away();
        return now.bits(b -> b.flown);
    }

    int call(int h) {
        need(bird(h).flown, STATE);
        act();
        bird(h).home();
        return now.bits(b -> b.flown);
    }

    int starve(int h, int v) {
        int was = bird(h).hunger;
        range(v, 0, 9);
        need(!bird(h).lost, STATE);
        act();
        bird(h).hunger = v;
        return was;
    }

    int lay(int a, int ridge) {
        int was = quest(a).at;
        range(ridge, 0, now.ridges - 1);
        need(was != ridge && quest(a).open(), STATE);
        act();
        quest(a).at = ridge;
        return was;
    }

    private int number(World w, Quest q) {
        return q == null ? NONE : w.quests.indexOf(q);
    }

    int hawk(int h, int what) {
        Bird b = bird(h);
        range(what, 0, 5);
        return switch (what) {
            case 0 -> b.hunger;
            case 1 -> b.at;
            case 2 -> b.lost ? 2 : b.flown ? 1 : 0;
            case 3 -> b.flown ? b.aloft : 0;
            case 4 -> number(now, now.goal(b));
            default -> b.flown && b.hunger > 0 ? number(now, now.prey(b)) : NONE;
        };
    }

    int answer(int a, int what) {
        Quest q = quest(a);
        range(what, 0, 3);
        return new int[] {q.at, q.worth, q.drift, q.open() ? 0 : 1}[what];
    }

    int stand(int what) {
        castleStands();
        range(what, 0, 5);
        int known = 0;
        for (int a = 0; a < now.quests.size(); a++) {
            known += quest(a).open() ? 0 : 1 << a;
        }
        return new int[] {now.bits(b -> b.flown), now.bits(b -> b.lost), known, now.worth(), now.ridges,
            now.longest}[what];
    }

    // ---- foretold

    int ahead(int h, int n, int what) {
        bird(h);
        range(n, 0, 60);
        range(what, 0, 1);
        Bird b = now.twin().pass(n).birds.get(h);
        return what == 1 ? b.hunger : b.lost ? NONE : b.at;
    }

    int later(int a, int n) {
        quest(a);
        range(n, 0, 60);
        Quest q = now.twin().pass(n).quests.get(a);
        return q.open() ? q.at : NONE;
    }

    private static int when(World w, int most, Predicate<World> so) {
        for (int n = 0; n <= most; n++) {
            if (so.test(w)) {
                return n;
            }
            w.pass();
        }
        return NONE;
    }

    int known(int a) {
        quest(a);
        return when(now.twin(), 60, w -> !w.quests.get(a).open());
    }

    int lost(int h) {
        bird(h);
        return when(now.twin(), 60, w -> w.birds.get(h).lost);
    }

    int first(int what) {
        castleStands();
        range(what, 0, 1);
        int best = NONE, least = 61;
        for (int a = 0; a < now.quests.size(); a++) {
            int n = known(a);
            if (quest(a).open() && n != NONE && n < least) {
                best = a;
                least = n;
            }
        }
        return what == 0 || best == NONE ? best : least;
    }

    private World let(int set) {
        World w = now.twin();
        w.birds.stream().filter(b -> (set >> b.number & 1) == 1).forEach(Bird::away);
        return w;
    }

    int flies(int n, int what) {
        castleStands();
        range(n, 1, 60);
        range(what, 0, 1);
        int free = now.bits(Bird::wrist);
        ToIntFunction<Integer> worth = set -> let(set).pass(n).worth();
        int best = IntStream.range(0, 32).filter(set -> (set | free) == free).boxed()
            .min(Comparator.comparingInt((Integer set) -> -worth.applyAsInt(set))
                .thenComparingInt(Integer::bitCount).thenComparingInt(set -> set)).orElse(0);
        return what == 0 ? best : worth.applyAsInt(best);
    }

    int waits(int h, int a, int what) {
        bird(h);
        quest(a);
        range(what, 0, 1);
        need(bird(h).wrist(), STATE);
        int best = NONE, least = 61;
        for (int wait = 0; wait <= 20; wait++) {
            World w = now.twin();
            int n = -1;
            for (int hour = 0; hour <= 60 && n < 0; hour++) {
                if (!w.quests.get(a).open()) {
                    n = hour;
                }
                if (hour == wait) {
                    w.birds.get(h).away();
                }
                w.pass();
            }
            if (n >= 0 && n < least) {
                least = n;
                best = wait;
            }
        }
        return what == 0 || best == NONE ? best : least;
    }

    int starves(int h, int a, int n) {
        bird(h);
        quest(a);
        range(n, 1, 30);
        need(!bird(h).lost, STATE);
        return fits(0, 9, (w, v) -> w.birds.get(h).hunger = v, w -> !w.pass(n).quests.get(a).open());
    }

    interface Change {
        void make(World w, int v);
    }

    private int fits(int least, int most, Change change, Predicate<World> so) {
        int bits = 0;
        for (int v = least; v <= most; v++) {
            World w = now.twin();
            change.make(w, v);
            bits += so.test(w) ? 1 << v : 0;
        }
        return bits;
    }

    int falconers(int n, int m) {
        castleStands();
        range(n, 0, 4);
        range(m, 1, 20);
        return turn(now, n, m, 0);
    }

    private int turn(World w, int left, int m, int whose) {
        if (left == 0) {
            World end = w.twin().pass(m);
            int sum = 0;
            for (int a = 0; a < end.quests.size(); a++) {
                Quest q = end.quests.get(a);
                if (now.quests.get(a).open() && !q.open()) {
                    sum += q.taker % 2 == 0 ? q.worth : -q.worth;
                }
            }
            return sum;
        }
        List<Integer> all = new ArrayList<>();
        all.add(turn(w, left - 1, m, 1 - whose));
        for (Bird b : w.birds) {
            if (b.wrist() && b.number % 2 == whose) {
                World next = w.twin();
                next.birds.get(b.number).away();
                all.add(turn(next, left - 1, m, 1 - whose));
            }
        }
        IntStream s = all.stream().mapToInt(v -> v);
        return whose == 0 ? s.max().orElse(0) : s.min().orElse(0);
    }

    int nearest(int ridge, int what) {
        need(now != null, BAD);
        range(ridge, 0, now.ridges - 1);
        range(what, 0, 1);
        Quest q = now.best(any -> true, Comparator.comparingInt(one -> Math.abs(one.at - ridge)));
        return what == 0 || q == null ? number(now, q) : Math.abs(q.at - ridge);
    }

    private Predicate<World> bell(int h, Object row, int i, int n) {
        return w -> {
            boolean so = true;
            for (int k = 0; k < n; k++) {
                so &= w.pass().birds.get(h).at == item(row, i + k);
            }
            return so;
        };
    }

    private void heard(int row, int i, int n) {
        find(rows[row] != null, 1);
        find(i >= 0 && (long) i + n <= size(rows[row]), 2);
        status = 0;
    }

    int who(int h, int which, int other, int row, int i, int n) {
        bird(h);
        range(which, 0, 1);
        bird(other);
        range(row, 0, 7);
        range(n, 1, 12);
        need(!bird(h).lost, STATE);
        heard(row, i, n);
        Predicate<World> so = bell(other, rows[row], i, n);
        return which == 0 ? fits(1, 5, (w, v) -> w.birds.get(h).sort = "-mpktb".charAt(v), so)
            : fits(0, 9, (w, v) -> w.birds.get(h).hunger = v, so);
    }

    int what(int a, int which, int h, int row, int i, int n) {
        quest(a);
        range(which, 0, 1);
        bird(h);
        range(row, 0, 7);
        range(n, 1, 12);
        need(quest(a).open(), STATE);
        heard(row, i, n);
        Predicate<World> so = bell(h, rows[row], i, n);
        return which == 0 ? fits(0, 2, (w, v) -> w.quests.get(a).drift = v, so)
            : fits(0, now.ridges - 1, (w, v) -> w.quests.get(a).at = v, so);
    }

    long moult(int a, int n, int p, int what) {
        quest(a);
        range(n, 0, 60);
        range(p, 0, 10);
        range(what, 0, 1);
        long above = cases(now.twin(), 0, a, n, p);
        long below = (long) Math.pow(10, Integer.bitCount(now.bits(b -> b.flown)));
        long shared = BigInteger.valueOf(above).gcd(BigInteger.valueOf(below)).longValue();
        return (what == 0 ? above : below) / shared;
    }

    private long cases(World w, int h, int a, int n, int p) {
        if (h == w.birds.size()) {
            return w.twin().pass(n).quests.get(a).open() ? 0 : 1;
        }
        if (!w.birds.get(h).flown) {
            return cases(w, h + 1, a, n, p);
        }
        World back = w.twin();
        back.birds.get(h).home();
        return p * cases(back, h + 1, a, n, p) + (10 - p) * cases(w, h + 1, a, n, p);
    }

    int drawn(int n, int seed, int what) {
        castleStands();
        range(n, 0, 60);
        range(seed, 1, 999999);
        range(what, 0, 1);
        World w = now.twin();
        BigInteger x = BigInteger.valueOf(seed);
        for (int k = 0; k < n; k++) {
            x = x.multiply(BigInteger.valueOf(16807)).mod(BigInteger.valueOf(2147483647));
            int v = x.intValueExact();
            Bird b = w.birds.get(v % w.birds.size());
            boolean wasFlown = b.flown;
            if (b.wrist() && v % 2 == 0) {
                b.away();
            }
            if (wasFlown && v % 5 == 0) {
                b.home();
            }
            w.pass();
        }
        return what == 0 ? w.worth() : w.bits(b -> b.lost);
    }

    int image(int k) {
        range(k, 0, 1);
        castleStands();
        images[k] = now.twin();
        return 1;
    }

    int restore(int k) {
        range(k, 0, 1);
        need(images[k] != null, STATE);
        now = images[k].twin();
        past.clear();
        return 1;
    }

    // ---- asked

    interface Hawk {
        Bird bird();

        Consumer<Integer> mark();

        default int sizeOf() {
            mark().accept(10);
            return bird().hunger;
        }

        default int markOf() {
            mark().accept(20);
            return bird().number;
        }
    }

    static class Merlin implements Hawk {
        final Bird bird;
        final Consumer<Integer> trace;

        Merlin(Bird bird, Consumer<Integer> trace) {
            this.bird = bird;
            this.trace = trace;
        }

        public Bird bird() {
            return bird;
        }

        public Consumer<Integer> mark() {
            return trace;
        }

        public int sizeOf() {
            trace.accept(11);
            return Hawk.super.sizeOf() + markOf();
        }

        public int markOf() {
            trace.accept(21);
            return Hawk.super.markOf() + bird.at;
        }
    }

    static class Peregrine extends Merlin {
        Peregrine(Bird bird, Consumer<Integer> trace) {
            super(bird, trace);
        }

        public int sizeOf() {
            trace.accept(12);
            return -super.sizeOf();
        }

        public int markOf() {
            trace.accept(24);
            return 2 * super.markOf();
        }
    }

    static class Kestrel extends Merlin {
        Kestrel(Bird bird, Consumer<Integer> trace) {
            super(bird, trace);
        }

        public int markOf() {
            trace.accept(22);
            return super.markOf() - 1000;
        }
    }

    static class Kite implements Hawk {
        final Bird bird;
        final Consumer<Integer> trace;

        Kite(Bird bird, Consumer<Integer> trace) {
            this.bird = bird;
            this.trace = trace;
        }

        public Bird bird() {
            return bird;
        }

        public Consumer<Integer> mark() {
            return trace;
        }

        public int sizeOf() {
            trace.accept(13);
            return Hawk.super.sizeOf() - 100;
        }

        public int markOf() {
            trace.accept(23);
            return Hawk.super.markOf() - sizeOf();
        }
    }

    static class Blind extends Kite {
        Blind(Bird bird, Consumer<Integer> trace) {
            super(bird, trace);
        }

        public int sizeOf() {
            trace.accept(14);
            return 2 * super.sizeOf();
        }
    }

    private Hawk asHawk(int one, Consumer<Integer> trace) {
        Bird b = bird(one);
        return switch (b.sort) {
            case 'm' -> new Merlin(b, trace);
            case 'p' -> new Peregrine(b, trace);
            case 'k' -> new Kestrel(b, trace);
            case 't' -> new Kite(b, trace);
            default -> new Blind(b, trace);
        };
    }

    int kind(int one) {
        return "-mpktb".indexOf(bird(one).sort);
    }

    int as(int one, int kind) {
        Hawk hawk = asHawk(one, any -> { });
        range(kind, 0, 5);
        Class<?>[] kinds = {Hawk.class, Merlin.class, Peregrine.class, Kestrel.class, Kite.class, Blind.class};
        find(kinds[kind].isInstance(hawk), 3);
        status = 0;
        return one;
    }

    int ask(int one, int what) {
        List<Integer> left = new ArrayList<>();
        Hawk hawk = asHawk(one, left::add);
        range(what, 0, 1);
        int reply = what == 0 ? hawk.sizeOf() : hawk.markOf();
        trace = left;
        return reply;
    }

    int trace(int i) {
        return i < 0 || i >= Math.min(16, trace.size()) ? NONE : trace.get(i);
    }

    int count(int what) {
        range(what, 0, 7);
        World w = now == null ? new World() : now;
        return switch (what) {
            case 0 -> (int) List.of(0, 1, 2, 3, 4, 5, 6, 7).stream().filter(r -> rows[r] != null).count();
            case 1 -> w.birds.size();
            case 2 -> w.quests.size();
            case 3 -> w.hour;
            case 4 -> (int) w.quests.stream().filter(q -> !q.open()).count();
            case 5 -> Integer.bitCount(w.bits(b -> b.lost));
            case 6 -> past.size();
            default -> tape.length();
        };
    }
}
