/** Questions flown as hawks from a castle, at answers that drift along its ridges. */
public final class HawkAsks {
    public static final int NONE = -1000000, BAD = -1000001, STATE = -1000002, FULL = -1000003;

    private static final int FINDING_BASE = -1000010, FAULT_BASE = -1000100;
    private static final int NULL = 1, PLACE = 2, KIND = 3, SIZE = 4, STORE = 5;
    private static final int MOST_HAWKS = 5, MOST_ANSWERS = 6, MOST_HUNGER = 9;
    private static final int MERLIN = 1, PEREGRINE = 2, KESTREL = 3, KITE = 4, BLIND = 5;
    private static final int WRIST = 0, FLOWN = 1, LOST = 2;
    private static final int STAYS = 0, UP = 1, DOWN = 2;
    private static final int LAST_HOUR = 999, FARTHEST = 60, LONGEST_WAIT = 20;

    private final Rows rows = new Rows();
    private final Reader reader = new Reader();
    private final Castle now = new Castle();
    private final Acts acts = new Acts();
    private final Foresight foresight = new Foresight();
    private final Castle[] images = {new Castle(), new Castle()};
    private final Asks asks = new Asks();
    private int latestFault;
    private int latestFinding;

    public HawkAsks() {
    }

    // ---- rows

    public int row(int row, int lane, int n) {
        if (!Rows.isRow(row) || !within(lane, 0, 2) || n > Rows.MOST_ITEMS) {
            return BAD;
        }
        if (n < 0) {
            return found(SIZE);
        }
        rows.begin(row, lane, n);
        return clean(n);
    }

    public int set(int row, int i, int v) {
        if (!Rows.isRow(row)) {
            return BAD;
        }
        int finding = rows.findingOf(row, i, 1);
        if (finding != 0) {
            return found(finding);
        }
        return clean(rows.put(row, i, v));
    }

    public int copy(int a, int i, int b, int j, int n) {
        if (!Rows.isRow(a) || !Rows.isRow(b)) {
            return BAD;
        }
        int finding = rows.findingOfTwo(a, i, b, j, n);
        if (finding != 0) {
            return found(finding);
        }
        rows.move(a, i, b, j, n);
        return clean(n);
    }

    public int drop(int row) {
        if (!Rows.isRow(row)) {
            return BAD;
        }
        if (rows.isMissing(row)) {
            return found(NULL);
        }
        return clean(rows.end(row));
    }

    // ---- what is told

    public int feed(int letter) {
        if (!within(letter, 0, 255)) {
            return BAD;
        }
        return reader.takeByte(letter) ? reader.length : FULL;
    }

    public int castle() {
        boolean good = reader.readAll();
        reader.length = 0;
        if (!good) {
            latestFault = reader.fault;
            return FAULT_BASE - reader.at;
        }
        now.takeFrom(reader.draft);
        acts.forget();
        return now.hawks;
    }

    public int fault() {
        return latestFault;
    }

    public int undo() {
        if (acts.held < 1) {
            return STATE;
        }
        acts.takeBack(now);
        return acts.held;
    }

    // ---- what is done

    public int hours(int n) {
        if (!now.isRead()) {
            return STATE;
        }
        if (!within(n, 1, 24)) {
            return BAD;
        }
        if (now.hour + n > LAST_HOUR) {
            return FULL;
        }
        for (int k = 0; k < n; k++) {
            acts.keep(now);
            now.passHours(1);
        }
        return now.knownWorth();
    }

    public int fly(int hawk) {
        if (!now.isHawk(hawk)) {
            return BAD;
        }
        if (now.how[hawk] != WRIST) {
            return STATE;
        }
        acts.keep(now);
        now.letGo(hawk);
        return now.hawksThatAre(FLOWN);
    }

    public int call(int hawk) {
        if (!now.isHawk(hawk)) {
            return BAD;
        }
        if (now.how[hawk] != FLOWN) {
            return STATE;
        }
        acts.keep(now);
        now.callBack(hawk);
        return now.hawksThatAre(FLOWN);
    }

    public int starve(int hawk, int v) {
        if (!now.isHawk(hawk) || !within(v, 0, MOST_HUNGER)) {
            return BAD;
        }
        if (now.how[hawk] == LOST) {
            return STATE;
        }
        acts.keep(now);
        int was = now.hungers[hawk];
        now.hungers[hawk] = v;
        return was;
    }

    public int lay(int answer, int ridge) {
        if (!now.isAnswer(answer) || !now.isRidge(ridge)) {
            return BAD;
        }
        int was = now.answerAt[answer];
        if (was == ridge || now.isKnown(answer)) {
            return STATE;
        }
        acts.keep(now);
        now.answerAt[answer] = ridge;
        return was;
    }

    public int hawk(int hawk, int what) {
        if (!now.isHawk(hawk)) {
            return BAD;
        }
        switch (what) {
            case 0: return now.hungers[hawk];
            case 1: return now.hawkAt[hawk];
            case 2: return now.how[hawk];
            case 3: return now.aloft[hawk];
            case 4: return now.quarry(hawk);
            case 5: return now.how[hawk] == FLOWN && now.hungers[hawk] > 0 ? now.prey(hawk) : NONE;
            default: return BAD;
        }
    }

    public int answer(int answer, int what) {
        if (!now.isAnswer(answer)) {
            return BAD;
        }
        switch (what) {
            case 0: return now.answerAt[answer];
            case 1: return now.worths[answer];
            case 2: return now.drifts[answer];
            case 3: return now.isKnown(answer) ? 1 : 0;
            default: return BAD;
        }
    }

    public int stand(int what) {
        if (!now.isRead()) {
            return STATE;
        }
        switch (what) {
            case 0: return now.hawksThatAre(FLOWN);
            case 1: return now.hawksThatAre(LOST);
            case 2: return now.knownBits;
            case 3: return now.knownWorth();
            case 4: return now.ridges;
            case 5: return now.longest;
            default: return BAD;
        }
    }

    // ---- foretold

    public int ahead(int hawk, int n, int what) {
        if (!now.isHawk(hawk) || !within(n, 0, FARTHEST) || !isEither(what)) {
            return BAD;
        }
        Castle then = foresight.behind(now, n);
        if (what == 1) {
            return then.hungers[hawk];
        }
        return then.how[hawk] == LOST ? NONE : then.hawkAt[hawk];
    }

    public int later(int answer, int n) {
        if (!now.isAnswer(answer) || !within(n, 0, FARTHEST)) {
            return BAD;
        }
        Castle then = foresight.behind(now, n);
        return then.isKnown(answer) ? NONE : then.answerAt[answer];
    }

    public int known(int answer) {
        return now.isAnswer(answer) ? foresight.hoursTillKnown(now, answer) : BAD;
    }

    public int lost(int hawk) {
        return now.isHawk(hawk) ? foresight.hoursTillLost(now, hawk) : BAD;
    }

    public int first(int what) {
        if (!now.isRead()) {
            return STATE;
        }
        return isEither(what) ? foresight.firstKnown(now, what) : BAD;
    }

    public int flies(int n, int what) {
        if (!now.isRead()) {
            return STATE;
        }
        return within(n, 1, FARTHEST) && isEither(what) ? foresight.bestFlight(now, n, what) : BAD;
    }

    public int waits(int hawk, int answer, int what) {
        if (!now.isHawk(hawk) || !now.isAnswer(answer) || !isEither(what)) {
            return BAD;
        }
        return now.how[hawk] == WRIST ? foresight.bestWait(now, hawk, answer, what) : STATE;
    }

    public int starves(int hawk, int answer, int n) {
        if (!now.isHawk(hawk) || !now.isAnswer(answer) || !within(n, 1, 30)) {
            return BAD;
        }
        return now.how[hawk] == LOST ? STATE : foresight.hungersThatServe(now, hawk, answer, n);
    }

    public int falconers(int n, int m) {
        if (!now.isRead()) {
            return STATE;
        }
        return within(n, 0, 4) && within(m, 1, 20) ? foresight.byTurns(now, n, m) : BAD;
    }

    public int nearest(int ridge, int what) {
        if (!now.isRidge(ridge) || !isEither(what)) {
            return BAD;
        }
        int answer = now.closest(ridge);
        return what == 0 || answer == NONE ? answer : now.distance(answer, ridge);
    }

    public int who(int hawk, int which, int other, int row, int i, int n) {
        if (!now.isHawk(hawk) || !isEither(which) || !now.isHawk(other) || !isBell(row, n)) {
            return BAD;
        }
        if (now.how[hawk] == LOST) {
            return STATE;
        }
        int finding = rows.findingOf(row, i, n);
        if (finding != 0) {
            return found(finding);
        }
        foresight.hear(other, rows.items[row], i, n);
        return clean(which == 0 ? foresight.kindsThatFit(now, hawk) : foresight.hungersThatFit(now, hawk));
    }

    public int what(int answer, int which, int hawk, int row, int i, int n) {
        if (!now.isAnswer(answer) || !isEither(which) || !now.isHawk(hawk) || !isBell(row, n)) {
            return BAD;
        }
        if (now.isKnown(answer)) {
            return STATE;
        }
        int finding = rows.findingOf(row, i, n);
        if (finding != 0) {
            return found(finding);
        }
        foresight.hear(hawk, rows.items[row], i, n);
        return clean(which == 0 ? foresight.driftsThatFit(now, answer) : foresight.placesThatFit(now, answer));
    }

    public long moult(int answer, int n, int p, int what) {
        if (!now.isAnswer(answer) || !within(n, 0, FARTHEST) || !within(p, 0, 10) || !isEither(what)) {
            return BAD;
        }
        return foresight.likelihood(now, answer, n, p, what);
    }

    public int drawn(int n, int seed, int what) {
        if (!now.isRead()) {
            return STATE;
        }
        if (!within(n, 0, FARTHEST) || !within(seed, 1, 999999) || !isEither(what)) {
            return BAD;
        }
        Castle then = foresight.season(now, n, seed);
        return what == 0 ? then.knownWorth() : then.hawksThatAre(LOST);
    }

    public int image(int k) {
        if (!isEither(k)) {
            return BAD;
        }
        if (!now.isRead()) {
            return STATE;
        }
        images[k].takeFrom(now);
        return 1;
    }

    public int restore(int k) {
        if (!isEither(k)) {
            return BAD;
        }
        if (!images[k].isRead()) {
            return STATE;
        }
        now.takeFrom(images[k]);
        acts.forget();
        return 1;
    }

    // ---- asked

    public int kind(int one) {
        return now.isHawk(one) ? now.kinds[one] : BAD;
    }

    public int as(int one, int kind) {
        if (!now.isHawk(one) || !within(kind, 0, BLIND)) {
            return BAD;
        }
        return Asks.isA(now.kinds[one], kind) ? clean(one) : found(KIND);
    }

    public int ask(int one, int what) {
        if (!now.isHawk(one) || !isEither(what)) {
            return BAD;
        }
        asks.begin(one, now.kinds[one], now.hungers[one], now.hawkAt[one]);
        return asks.giveFor(what);
    }

    public int trace(int i) {
        return within(i, 0, asks.traced - 1) ? asks.bodies[i] : NONE;
    }

    public int count(int what) {
        switch (what) {
            case 0: return rows.howMany();
            case 1: return now.hawks;
            case 2: return now.answers;
            case 3: return now.hour;
            case 4: return Integer.bitCount(now.knownBits);
            case 5: return Integer.bitCount(now.hawksThatAre(LOST));
            case 6: return acts.held;
            case 7: return reader.length;
            default: return BAD;
        }
    }

    public int status() {
        return latestFinding;
    }

    private int found(int finding) {
        latestFinding = finding;
        return FINDING_BASE - finding;
    }

    private int clean(int reply) {
        latestFinding = 0;
        return reply;
    }

    private static boolean within(int v, int least, int most) {
        return v >= least && v <= most;
    }

    private static boolean isEither(int v) {
        return v == 0 || v == 1;
    }

    private static boolean isBell(int row, int n) {
        return Rows.isRow(row) && within(n, 1, Foresight.MOST_BELL);
    }

    /** The rows, all made once: what a row holds beyond its size is never read. */
    private static final class Rows {
        static final int HOW_MANY = 8, MOST_ITEMS = 40;
        private static final int MISSING = -1;

        final int[][] items = new int[HOW_MANY][MOST_ITEMS];
        private final int[] lanes = new int[HOW_MANY];
        private final int[] sizes = {MISSING, MISSING, MISSING, MISSING, MISSING, MISSING, MISSING, MISSING};

        static boolean isRow(int row) {
            return within(row, 0, HOW_MANY - 1);
        }

        boolean isMissing(int row) {
            return sizes[row] == MISSING;
        }

        int howMany() {
            int n = 0;
            for (int row = 0; row < HOW_MANY; row++) {
                n += isMissing(row) ? 0 : 1;
            }
            return n;
        }

        void begin(int row, int lane, int n) {
            lanes[row] = lane;
            sizes[row] = n;
            for (int i = 0; i < n; i++) {
                items[row][i] = 0;
            }
        }

        int end(int row) {
            int had = sizes[row];
            sizes[row] = MISSING;
            return had;
        }

        int put(int row, int i, int v) {
            items[row][i] = narrowed(lanes[row], v);
            return items[row][i];
        }

        void move(int a, int i, int b, int j, int n) {
            System.arraycopy(items[a], i, items[b], j, n);
        }

        /** 0, or what is wrong with n items of a row from i on. */
        int findingOf(int row, int i, int n) {
            if (isMissing(row)) {
                return NULL;
            }
            return holds(row, i, n) ? 0 : PLACE;
        }

        int findingOfTwo(int a, int i, int b, int j, int n) {
            if (isMissing(a) || isMissing(b)) {
                return NULL;
            }
            if (lanes[a] != lanes[b]) {
                return STORE;
            }
            return holds(a, i, n) && holds(b, j, n) ? 0 : PLACE;
        }

        // i + n could wrap around, size - n cannot: n is not below 0 there.
        private boolean holds(int row, int i, int n) {
            return i >= 0 && n >= 0 && i <= sizes[row] - n;
        }

        private static int narrowed(int lane, int v) {
            if (lane == 0) {
                return (byte) v;
            }
            return lane == 1 ? (short) v : v;
        }
    }

    /** The tape, and the reading of it into a draft, so that a fault leaves the castle as it was. */
    private static final class Reader {
        private static final int MOST_BYTES = 120;

        final Castle draft = new Castle();
        private final int[] tape = new int[MOST_BYTES];
        int length;
        /** The token that is looked at; of a fault its place. */
        int at;
        int fault;
        private int value;

        boolean takeByte(int letter) {
            if (length >= MOST_BYTES) {
                return false;
            }
            tape[length] = letter;
            length++;
            return true;
        }

        boolean readAll() {
            at = 0;
            draft.clear();
            return readLaw() && readAnswers() && readHawks();
        }

        private boolean readLaw() {
            if (!sign('c') || !number(2, 9)) {
                return false;
            }
            draft.ridges = value;
            if (!sign(',') || !number(1, 30)) {
                return false;
            }
            draft.longest = value;
            return sign(';');
        }

        private boolean readAnswers() {
            for (int k = 0; k <= MOST_ANSWERS; k++) {
                if (k > 0 && byteHere() != 'q') {
                    return true;
                }
                if (!readAnswer()) {
                    return false;
                }
            }
            return false;
        }

        private boolean readAnswer() {
            if (byteHere() == 'q' && draft.answers >= MOST_ANSWERS) {
                return fail(3);
            }
            if (!sign('q') || !number(0, draft.ridges - 1)) {
                return false;
            }
            int ridge = value;
            if (!sign(',') || !number(1, 9)) {
                return false;
            }
            int worth = value;
            if (!sign(',') || !number(STAYS, DOWN)) {
                return false;
            }
            draft.addAnswer(ridge, worth, value);
            return sign(';');
        }

        private boolean readHawks() {
            for (int k = 0; k <= MOST_HAWKS; k++) {
                if (k > 0 && at >= length) {
                    return true;
                }
                if (!readHawk()) {
                    return false;
                }
            }
            return false;
        }

        private boolean readHawk() {
            int kind = kindOf(byteHere());
            if (kind == 0) {
                return fail(1);
            }
            if (draft.hawks >= MOST_HAWKS) {
                return fail(3);
            }
            at++;
            if (!number(0, MOST_HUNGER)) {
                return false;
            }
            draft.addHawk(kind, value);
            return sign(';');
        }

        private boolean sign(int due) {
            if (byteHere() != due) {
                return fail(1);
            }
            at++;
            return true;
        }

        private boolean number(int least, int most) {
            int figures = 0;
            value = 0;
            while (figures < 3 && isFigure(byteAt(at + figures))) {
                value = value * 10 + byteAt(at + figures) - '0';
                figures++;
            }
            if (!within(figures, 1, 2)) {
                return fail(1);
            }
            if (!within(value, least, most)) {
                return fail(2);
            }
            at += figures;
            return true;
        }

        private boolean fail(int number) {
            fault = number;
            return false;
        }

        private int byteHere() {
            return byteAt(at);
        }

        private int byteAt(int i) {
            return within(i, 0, length - 1) ? tape[i] : NONE;
        }

        private static boolean isFigure(int letter) {
            return within(letter, '0', '9');
        }

        private static int kindOf(int letter) {
            switch (letter) {
                case 'm': return MERLIN;
                case 'p': return PEREGRINE;
                case 'k': return KESTREL;
                case 't': return KITE;
                case 'b': return BLIND;
                default: return 0;
            }
        }
    }

    /** Ridges, hawks, answers and the hour, with the rules by which an hour passes. */
    private static final class Castle {
        int ridges;
        int longest;
        int hour;
        int hawks;
        final int[] kinds = new int[MOST_HAWKS];
        final int[] hungers = new int[MOST_HAWKS];
        final int[] hawkAt = new int[MOST_HAWKS];
        final int[] how = new int[MOST_HAWKS];
        final int[] aloft = new int[MOST_HAWKS];
        int answers;
        final int[] answerAt = new int[MOST_ANSWERS];
        final int[] worths = new int[MOST_ANSWERS];
        final int[] drifts = new int[MOST_ANSWERS];
        int knownBits;
        /** Worth of all that hawks of even numbers took, less that of odd ones. */
        int lead;

        // Enough for a draft: no hawk of it is ever let go and no hour passes in it.
        void clear() {
            hawks = 0;
            answers = 0;
        }

        void addAnswer(int ridge, int worth, int drift) {
            answerAt[answers] = ridge;
            worths[answers] = worth;
            drifts[answers] = drift;
            answers++;
        }

        void addHawk(int kind, int hunger) {
            kinds[hawks] = kind;
            hungers[hawks] = hunger;
            hawks++;
        }

        void takeFrom(Castle other) {
            ridges = other.ridges;
            longest = other.longest;
            hour = other.hour;
            hawks = other.hawks;
            answers = other.answers;
            knownBits = other.knownBits;
            lead = other.lead;
            for (int h = 0; h < hawks; h++) {
                kinds[h] = other.kinds[h];
                hungers[h] = other.hungers[h];
                hawkAt[h] = other.hawkAt[h];
                how[h] = other.how[h];
                aloft[h] = other.aloft[h];
            }
            for (int a = 0; a < answers; a++) {
                answerAt[a] = other.answerAt[a];
                worths[a] = other.worths[a];
                drifts[a] = other.drifts[a];
            }
        }

        // Every castle that was read has a hawk.
        boolean isRead() {
            return hawks > 0;
        }

        boolean isHawk(int h) {
            return within(h, 0, hawks - 1);
        }

        boolean isAnswer(int a) {
            return within(a, 0, answers - 1);
        }

        boolean isRidge(int ridge) {
            return within(ridge, 0, ridges - 1);
        }

        boolean isKnown(int a) {
            return (knownBits >> a & 1) == 1;
        }

        int knownWorth() {
            int worth = 0;
            for (int a = 0; a < answers; a++) {
                worth += isKnown(a) ? worths[a] : 0;
            }
            return worth;
        }

        int hawksThatAre(int manner) {
            int bits = 0;
            for (int h = 0; h < hawks; h++) {
                bits |= how[h] == manner ? 1 << h : 0;
            }
            return bits;
        }

        void letGo(int h) {
            perch(h, FLOWN);
        }

        void callBack(int h) {
            perch(h, WRIST);
        }

        /** Lets go, or calls back, all hawks of a set. */
        void perchAll(int bits, int manner) {
            for (int h = 0; h < hawks; h++) {
                if ((bits >> h & 1) == 1) {
                    perch(h, manner);
                }
            }
        }

        private void perch(int h, int manner) {
            hawkAt[h] = 0;
            how[h] = manner;
            aloft[h] = 0;
        }

        void passHours(int n) {
            for (int k = 0; k < n; k++) {
                for (int a = 0; a < answers; a++) {
                    driftOn(a);
                }
                for (int h = 0; h < hawks; h++) {
                    boolean took = how[h] == FLOWN && takesInFlight(h);
                    if (hour % 3 == 2 && !took && how[h] != LOST && hungers[h] < MOST_HUNGER) {
                        hungers[h]++;
                    }
                }
                hour++;
            }
        }

        private void driftOn(int a) {
            if (isKnown(a)) {
                return;
            }
            if (drifts[a] == UP && answerAt[a] >= ridges - 1) {
                drifts[a] = DOWN;
            } else if (drifts[a] == DOWN && answerAt[a] <= 0) {
                drifts[a] = UP;
            }
            if (drifts[a] == UP) {
                answerAt[a]++;
            } else if (drifts[a] == DOWN) {
                answerAt[a]--;
            }
        }

        /** The hour of a hawk that is flown: whether it takes an answer. */
        private boolean takesInFlight(int h) {
            if (hungers[h] > 0) {
                hawkAt[h] = nextRidge(h, quarry(h));
                int a = prey(h);
                if (a != NONE) {
                    take(h, a);
                    return true;
                }
            }
            aloft[h]++;
            if (aloft[h] >= longest) {
                how[h] = LOST;
                aloft[h] = 0;
            }
            return false;
        }

        private void take(int h, int a) {
            knownBits |= 1 << a;
            hungers[h] = Math.max(0, hungers[h] - worths[a]);
            aloft[h] = 0;
            lead += h % 2 == 0 ? worths[a] : -worths[a];
        }

        private int nextRidge(int h, int goal) {
            int at = hawkAt[h];
            switch (kinds[h]) {
                case MERLIN: return towards(at, goal, 1);
                case PEREGRINE: return towards(at, goal, 2);
                case KITE: return at < ridges - 1 ? at + 1 : 0;
                case BLIND: return at > 0 ? at - 1 : 0;
                default: return at;
            }
        }

        private int towards(int at, int a, int most) {
            if (a == NONE) {
                return at;
            }
            int way = answerAt[a] - at;
            return at + Math.max(-most, Math.min(most, way));
        }

        /** The answer that a hawk goes for; NONE for those that go for none. */
        int quarry(int h) {
            switch (kinds[h]) {
                case MERLIN: return closest(hawkAt[h]);
                case PEREGRINE: return worthiest(hawkAt[h]);
                default: return NONE;
            }
        }

        int distance(int a, int ridge) {
            return Math.abs(answerAt[a] - ridge);
        }

        int closest(int ridge) {
            int best = NONE;
            int least = 0;
            for (int a = 0; a < answers; a++) {
                int far = Math.abs(answerAt[a] - ridge);
                if (!isKnown(a) && (best == NONE || far < least)) {
                    best = a;
                    least = far;
                }
            }
            return best;
        }

        private int worthiest(int ridge) {
            int best = NONE;
            int least = 0;
            int most = 0;
            for (int a = 0; a < answers; a++) {
                int far = Math.abs(answerAt[a] - ridge);
                if (!isKnown(a) && (worths[a] > most || worths[a] == most && far < least)) {
                    best = a;
                    least = far;
                    most = worths[a];
                }
            }
            return best;
        }

        /** The answer that a hawk would take on its ridge, were it flown and hungry. */
        int prey(int h) {
            int best = NONE;
            int limit = greatestTaken(h);
            for (int a = 0; a < answers; a++) {
                if (!isKnown(a) && answerAt[a] == hawkAt[h] && worths[a] <= limit
                        && (best == NONE || worths[a] > worths[best])) {
                    best = a;
                }
            }
            return best;
        }

        private int greatestTaken(int h) {
            switch (kinds[h]) {
                case PEREGRINE: return 9;
                case KITE:
                case BLIND: return hungers[h] - 1;
                default: return hungers[h];
            }
        }
    }

    /** What stood ahead of each act that can be undone: a ring, so that the oldest is forgotten. */
    private static final class Acts {
        private static final int MOST = 24;

        private final Castle[] kept = new Castle[MOST];
        private int next;
        int held;

        Acts() {
            for (int k = 0; k < MOST; k++) {
                kept[k] = new Castle();
            }
        }

        void forget() {
            held = 0;
        }

        void keep(Castle now) {
            kept[next].takeFrom(now);
            next = (next + 1) % MOST;
            held = Math.min(MOST, held + 1);
        }

        void takeBack(Castle now) {
            next = (next + MOST - 1) % MOST;
            held--;
            now.takeFrom(kept[next]);
        }
    }

    /** What is foretold, tried out on castles of its own. */
    private static final class Foresight {
        static final int MOST_BELL = 12;
        private static final int ALL_SETS = 1 << MOST_HAWKS;

        private final Castle then = new Castle();
        private final Castle waiting = new Castle();
        private final int[] leads = new int[ALL_SETS];
        private final int[] bell = new int[MOST_BELL];
        private int bellHawk;
        private int bellHours;

        Castle behind(Castle now, int n) {
            then.takeFrom(now);
            then.passHours(n);
            return then;
        }

        int hoursTillKnown(Castle now, int answer) {
            then.takeFrom(now);
            return runTillKnown(answer, 0);
        }

        /** Lets hours pass from so many on, till the answer is known: behind how many it is. */
        private int runTillKnown(int answer, int from) {
            for (int n = from; n <= FARTHEST; n++) {
                if (then.isKnown(answer)) {
                    return n;
                }
                then.passHours(1);
            }
            return NONE;
        }

        int hoursTillLost(Castle now, int hawk) {
            then.takeFrom(now);
            for (int n = 0; n <= FARTHEST; n++) {
                if (then.how[hawk] == LOST) {
                    return n;
                }
                then.passHours(1);
            }
            return NONE;
        }

        int firstKnown(Castle now, int what) {
            then.takeFrom(now);
            for (int n = 1; n <= FARTHEST; n++) {
                then.passHours(1);
                for (int a = 0; a < now.answers; a++) {
                    if (then.isKnown(a) && !now.isKnown(a)) {
                        return what == 0 ? a : n;
                    }
                }
            }
            return NONE;
        }

        int bestFlight(Castle now, int n, int what) {
            int free = now.hawksThatAre(WRIST);
            int best = 0;
            int most = -1;
            for (int set = 0; set < ALL_SETS; set++) {
                if ((set & ~free) == 0) {
                    int worth = flightOf(now, set, n).knownWorth();
                    if (worth > most || worth == most && Integer.bitCount(set) < Integer.bitCount(best)) {
                        best = set;
                        most = worth;
                    }
                }
            }
            return what == 0 ? best : most;
        }

        private Castle flightOf(Castle now, int set, int n) {
            then.takeFrom(now);
            then.perchAll(set, FLOWN);
            then.passHours(n);
            return then;
        }

        // A wait beyond the hour in which the answer is known without the hawk tells a
        // later hour than is so, but the wait of just that hour came first and is not later.
        int bestWait(Castle now, int hawk, int answer, int what) {
            int best = NONE;
            int soonest = NONE;
            waiting.takeFrom(now);
            for (int wait = 0; wait <= LONGEST_WAIT; wait++) {
                then.takeFrom(waiting);
                then.letGo(hawk);
                int n = runTillKnown(answer, wait);
                if (n != NONE && (soonest == NONE || n < soonest)) {
                    best = wait;
                    soonest = n;
                }
                waiting.passHours(1);
            }
            return what == 0 ? best : soonest;
        }

        int hungersThatServe(Castle now, int hawk, int answer, int n) {
            int bits = 0;
            for (int hunger = 0; hunger <= MOST_HUNGER; hunger++) {
                then.takeFrom(now);
                then.hungers[hawk] = hunger;
                then.passHours(n);
                bits |= then.isKnown(answer) ? 1 << hunger : 0;
            }
            return bits;
        }

        int byTurns(Castle now, int n, int m) {
            int free = now.hawksThatAre(WRIST);
            for (int set = 0; set < ALL_SETS; set++) {
                if ((set & ~free) == 0 && Integer.bitCount(set) <= n) {
                    leads[set] = flightOf(now, set, m).lead - now.lead;
                }
            }
            return turn(leads, free, 0, 0, n);
        }

        /** What comes of turn k and those behind it, when a set was let go ahead of it. */
        private static int turn(int[] leads, int free, int set, int k, int n) {
            if (k >= n) {
                return leads[set];
            }
            int best = turn(leads, free, set, k + 1, n);
            for (int h = k % 2; h < MOST_HAWKS; h += 2) {
                if ((free & ~set & 1 << h) != 0) {
                    int lead = turn(leads, free, set | 1 << h, k + 1, n);
                    best = k % 2 == 0 ? Math.max(best, lead) : Math.min(best, lead);
                }
            }
            return best;
        }

        /** The bell that the next asks are about: n items of a row, from i on. */
        void hear(int hawk, int[] items, int i, int n) {
            bellHawk = hawk;
            bellHours = n;
            System.arraycopy(items, i, bell, 0, n);
        }

        private boolean bellFits() {
            for (int k = 0; k < bellHours; k++) {
                then.passHours(1);
                if (then.hawkAt[bellHawk] != bell[k]) {
                    return false;
                }
            }
            return true;
        }

        int kindsThatFit(Castle now, int hawk) {
            int bits = 0;
            for (int kind = MERLIN; kind <= BLIND; kind++) {
                then.takeFrom(now);
                then.kinds[hawk] = kind;
                bits |= bellFits() ? 1 << kind : 0;
            }
            return bits;
        }

        int hungersThatFit(Castle now, int hawk) {
            int bits = 0;
            for (int hunger = 0; hunger <= MOST_HUNGER; hunger++) {
                then.takeFrom(now);
                then.hungers[hawk] = hunger;
                bits |= bellFits() ? 1 << hunger : 0;
            }
            return bits;
        }

        int driftsThatFit(Castle now, int answer) {
            int bits = 0;
            for (int drift = STAYS; drift <= DOWN; drift++) {
                then.takeFrom(now);
                then.drifts[answer] = drift;
                bits |= bellFits() ? 1 << drift : 0;
            }
            return bits;
        }

        int placesThatFit(Castle now, int answer) {
            int bits = 0;
            for (int ridge = 0; ridge < now.ridges; ridge++) {
                then.takeFrom(now);
                then.answerAt[answer] = ridge;
                bits |= bellFits() ? 1 << ridge : 0;
            }
            return bits;
        }

        long likelihood(Castle now, int answer, int n, int p, int what) {
            int flown = now.hawksThatAre(FLOWN);
            long above = 0;
            long below = 0;
            for (int set = 0; set < ALL_SETS; set++) {
                if ((set & ~flown) == 0) {
                    long cases = casesOf(flown, set, p);
                    below += cases;
                    above += cases > 0 && isKnownWithout(now, set, answer, n) ? cases : 0;
                }
            }
            long shared = commonDivisor(below, above);
            if (shared < 1) {
                return NONE;
            }
            return what == 0 ? above / shared : below / shared;
        }

        /** In how many cases, of 10 for each hawk that is flown, just that set is called back. */
        private static long casesOf(int flown, int set, int p) {
            long cases = 1;
            for (int h = 0; h < MOST_HAWKS; h++) {
                if ((flown >> h & 1) == 1) {
                    cases *= (set >> h & 1) == 1 ? p : 10 - p;
                }
            }
            return cases;
        }

        private boolean isKnownWithout(Castle now, int set, int answer, int n) {
            then.takeFrom(now);
            then.perchAll(set, WRIST);
            then.passHours(n);
            return then.isKnown(answer);
        }

        private static long commonDivisor(long a, long b) {
            for (int k = 0; k < 100 && b != 0; k++) {
                long rest = a % b;
                a = b;
                b = rest;
            }
            return a;
        }

        Castle season(Castle now, int n, int seed) {
            long x = seed;
            then.takeFrom(now);
            for (int k = 0; k < n; k++) {
                x = x * 16807 % 2147483647;
                drawOne(x);
                then.passHours(1);
            }
            return then;
        }

        private void drawOne(long x) {
            if (then.hawks < 1) {
                return;
            }
            int h = (int) (x % then.hawks);
            if (then.how[h] == WRIST && x % 2 == 0) {
                then.letGo(h);
            } else if (then.how[h] == FLOWN && x % 5 == 0) {
                then.callBack(h);
            }
        }
    }

    /** What is asked of one hawk, body by body, and the trace that the bodies leave. */
    private static final class Asks {
        private static final int MOST_TRACED = 16, DEEPEST = 16;
        /** The body that begins, for each kind: its own, else that of the nearest kind it is, else the lent one. */
        private static final int[] SIZE_BODIES = {10, 11, 12, 11, 13, 14};
        private static final int[] MARK_BODIES = {20, 21, 24, 22, 23, 23};

        final int[] bodies = new int[MOST_TRACED];
        int traced;
        private int number;
        private int kind;
        private int hunger;
        private int ridge;

        static boolean isA(int kind, int above) {
            return kind == above || above == 0 || parent(kind) == above;
        }

        private static int parent(int kind) {
            switch (kind) {
                case PEREGRINE:
                case KESTREL: return MERLIN;
                case BLIND: return KITE;
                default: return 0;
            }
        }

        void begin(int hawk, int itsKind, int itsHunger, int itsRidge) {
            number = hawk;
            kind = within(itsKind, 0, BLIND) ? itsKind : 0;
            hunger = itsHunger;
            ridge = itsRidge;
            traced = 0;
        }

        int giveFor(int what) {
            return gives(what == 0 ? SIZE_BODIES[kind] : MARK_BODIES[kind], 0);
        }

        private int gives(int body, int depth) {
            if (depth > DEEPEST) {
                return 0;
            }
            leave(body);
            int next = depth + 1;
            switch (body) {
                case 10: return hunger;
                case 11: return gives(10, next) + gives(MARK_BODIES[kind], next);
                case 12: return -gives(11, next);
                case 13: return gives(10, next) - 100;
                case 14: return gives(13, next) * 2;
                case 20: return number;
                case 21: return gives(20, next) + ridge;
                case 22: return gives(21, next) - 1000;
                case 23: return gives(20, next) - gives(SIZE_BODIES[kind], next);
                case 24: return gives(21, next) * 2;
                default: return 0;
            }
        }

        private void leave(int body) {
            if (traced < MOST_TRACED) {
                bodies[traced] = body;
                traced++;
            }
        }
    }
}
