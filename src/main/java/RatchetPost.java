import java.util.ArrayList;

/**
 * A ratchet post: letters under keys that move on with each one, told in a small arithmetic, so that it can be
 * said exactly who could have known what. ../shared/DOC.md says what each call answers.
 */
public final class RatchetPost {
    private static final int PAIRS = 6;
    private static final int ROW = 12;
    private static final int LETTERS = 300;
    private static final int KEPT = 12;
    private static final int TRAYS = 8;
    private static final int TRACED = 40;

    private static final int NONE = -1;

    private static final int NO_SUCH = 1;
    private static final int NO_ROOM = 2;
    private static final int NOT_SO = 3;
    private static final int TOO_LATE = 4;
    private static final int TOO_FAR = 5;
    private static final int EMPTY_ROW = 6;
    private static final int NOT_GOOD = 7;
    private static final int HOST_NOTHING = 10;
    private static final int HOST_OTHER_KIND = 11;
    private static final int HOST_OUTSIDE = 12;
    private static final int HOST_BELOW_0 = 13;
    private static final int HOST_NO_FIT = 14;
    private static final int HOST_BY_0 = 15;

    private static final int KEY = 0;
    private static final int CHAIN = 1;
    private static final int ROOT = 2;
    private static final int SECRET = 3;
    private static final int SKIPPED = 4;
    private static final int MEETING = 5;
    private static final int KINDS = 6;

    private static final int MOVE = 0;
    private static final int MIX = 1;
    private static final int END = 2;
    private static final int TELL = 3;
    private static final int ACTS = 4;

    /** Far above what the BODIES can need: they go five deep at most. */
    private static final int DEEPEST = 20;

    private final Arithmetic arithmetic;
    private final Things things;
    private final End[] ends;
    private final Letter[] letters;
    private final Tray[] trays;
    private final Trace begun;
    private int endCount;
    private int tick;
    private int most;
    private int life;
    private int latest;

    public RatchetPost() {
        things = new Things();
        arithmetic = things.arithmetic;
        ends = new End[2 * PAIRS];
        letters = new Letter[LETTERS];
        trays = new Tray[TRAYS];
        for (int i = 0; i < TRAYS; i++) {
            trays[i] = new Tray();
        }
        begun = new Trace();
        most = 6;
        life = 50;
    }

    // ---- what is told to the post ----

    public int prime(int q, int g) {
        if (q < 3 || q > 10007 || g < 2 || g >= q) {
            return refuse(NO_SUCH);
        }
        if (endCount > 0) {
            return refuse(NOT_SO);
        }
        arithmetic.modulus = q;
        arithmetic.base = g;
        return done(q);
    }

    public int limits(int most, int life) {
        if (most < 0 || most > 12 || life < 0 || life > 300) {
            return refuse(NO_SUCH);
        }
        this.most = most;
        this.life = life;
        endOldSkipped();
        return done(1);
    }

    public int pair() {
        if (endCount >= 2 * PAIRS) {
            return refuse(NO_ROOM);
        }
        ends[endCount] = new End(endCount);
        ends[endCount + 1] = new End(endCount + 1);
        endCount += 2;
        return done(endCount / 2 - 1);
    }

    public int secret(int end, int s) {
        End e = endAt(end);
        if (e == null || s < 1 || s > 10000) {
            return refuse(NO_SUCH);
        }
        if (e.rowCount >= ROW) {
            return refuse(NO_ROOM);
        }
        e.row[e.rowCount] = things.newSecret(s);
        e.rowCount++;
        return done(e.rowCount);
    }

    public int start(int pair) {
        End lower = lowerOf(pair);
        End other = otherOf(pair);
        if (lower == null || other == null) {
            return refuse(NO_SUCH);
        }
        if (lower.started || lower.rowCount < 2 || other.rowCount < 1) {
            return refuse(NOT_SO);
        }
        Thing a = lower.nextSecret();
        Thing b = other.nextSecret();
        Thing first = things.firstRootOf(things.meetingOf(a, b));
        other.started = true;
        other.own = b;
        other.root = first;
        lower.started = true;
        lower.own = lower.nextSecret();
        lower.root = things.rootOf(first, things.meetingOf(lower.own, b));
        lower.sending = things.chainOf(lower.root);
        lower.from = arithmetic.publicOf(b.value);
        return done(1);
    }

    public int send(int end, int b) {
        End e = endAt(end);
        if (e == null || b < 0 || b > 255) {
            return refuse(NO_SUCH);
        }
        if (tick >= LETTERS) {
            return refuse(NO_ROOM);
        }
        if (!e.started || e.sending == null) {
            return refuse(NOT_SO);
        }
        Thing key = things.keyOf(e.sending);
        Letter made = new Letter(e, key);
        made.header[0] = arithmetic.publicOf(e.own.value);
        made.text = (b + key.value) & 255;
        made.check = arithmetic.mix(key.value, b);
        letters[tick] = made;
        tick++;
        e.sending = things.nextOf(e.sending);
        e.sent++;
        endOldSkipped();
        return done(tick - 1);
    }

    public int alter(int letter, int mask) {
        Letter l = letterAt(letter);
        if (l == null || mask < 1 || mask > 255) {
            return refuse(NO_SUCH);
        }
        l.text ^= mask;
        return done(1);
    }

    public int take(int end, int letter) {
        End e = endAt(end);
        Letter l = letterAt(letter);
        if (e == null || l == null) {
            return refuse(NO_SUCH);
        }
        if (l.sender != (e.number ^ 1)) {
            return refuse(NOT_SO);
        }
        int kept = e.keptFor(l);
        if (kept != NONE) {
            return takeByKept(e, l, kept);
        }
        if (l.from() == e.from && e.taking != null) {
            return takeByChain(e, l);
        }
        return takeNewPublic(e, l);
    }

    public int see(int end) {
        End e = endAt(end);
        if (e == null) {
            return refuse(NO_SUCH);
        }
        if (!e.started) {
            return refuse(NOT_SO);
        }
        int news = things.show(e.own) + things.show(e.root) + things.show(e.sending) + things.show(e.taking);
        for (int i = 0; i < e.keptCount; i++) {
            news += things.show(e.kept[i].key);
        }
        things.settle();
        return done(news);
    }

    // ---- what is asked of the post ----

    public int known(int letter) {
        Letter l = letterAt(letter);
        if (l == null) {
            return -1;
        }
        return l.key.stepCount == NONE ? 0 : 1;
    }

    public int steps(int letter) {
        Letter l = letterAt(letter);
        return l == null ? -1 : l.key.stepCount;
    }

    public int heals(int pair) {
        if (lowerOf(pair) == null) {
            return -1;
        }
        int first = -1;
        for (int i = tick - 1; i >= 0; i--) {
            if (letters[i].sender / 2 == pair) {
                if (letters[i].key.stepCount != NONE) {
                    return first;
                }
                first = i;
            }
        }
        return first;
    }

    public int same(int pair) {
        End lower = lowerOf(pair);
        End other = otherOf(pair);
        if (lower == null || other == null || !lower.started) {
            return -1;
        }
        return (lower.root == other.root ? 1 : 0)
            + (lower.sending == other.taking ? 2 : 0)
            + (other.sending == lower.taking ? 4 : 0);
    }

    public int told(int end, int what) {
        End e = endAt(end);
        if (e == null) {
            return -1;
        }
        if (what == 0) {
            return e.rowCount;
        }
        if (!e.started) {
            return -1;
        }
        switch (what) {
            case 1: return arithmetic.publicOf(e.own.value);
            case 2: return valueOf(e.root);
            case 3: return valueOf(e.sending);
            case 4: return valueOf(e.taking);
            case 5: return e.from;
            case 6: return e.sent;
            case 7: return e.before;
            case 8: return e.past;
            case 9: return e.keptCount;
            default: return -1;
        }
    }

    public int skipped(int end, int i, int what) {
        End e = endAt(end);
        if (e == null || i < 0 || i >= e.keptCount) {
            return -1;
        }
        Skipped s = e.kept[i];
        switch (what) {
            case 0: return s.from;
            case 1: return s.place;
            case 2: return s.value;
            case 3: return s.tick;
            default: return -1;
        }
    }

    public int letter(int letter, int what) {
        Letter l = letterAt(letter);
        if (l == null) {
            return -1;
        }
        switch (what) {
            case 0: return l.sender;
            case 1: return l.from();
            case 2: return l.before();
            case 3: return l.place();
            case 4: return l.text;
            case 5: return l.check;
            default: return -1;
        }
    }

    public int count(int what) {
        switch (what) {
            case 0: return endCount / 2;
            case 1: return tick;
            case 2: return things.came.size();
            case 3: return things.knownOnes;
            case 4: return begun.kept;
            default: return -1;
        }
    }

    // ---- trays, acts and the host ----

    public int hold(int tray, int what, int n) {
        Tray t = trayAt(tray);
        if (t == null || what < 0 || what > 7) {
            return refuse(NO_SUCH);
        }
        if (what == 0) {
            t.put(null, null);
            return done(1);
        }
        return what <= 2 ? holdOfLetter(t, what, letterAt(n)) : holdOfEnd(t, what, endAt(n));
    }

    public int tray(int tray) {
        Tray t = trayAt(tray);
        if (t == null) {
            return -1;
        }
        if (t.mail != null) {
            return 1;
        }
        return t.thing == null ? 0 : 2 + t.thing.kind;
    }

    public int act(int tray, int act, int x) {
        Tray t = trayAt(tray);
        if (t == null || act < 0 || act >= ACTS) {
            return refuse(NO_SUCH);
        }
        if (t.thing == null) {
            return refuse(NOT_SO);
        }
        begun.kept = 0;
        return done(run(begun, t.thing, t.thing.kind, act, x, 0));
    }

    public int trace(int i) {
        return i >= 0 && i < begun.kept ? begun.bodies[i] : -1;
    }

    public int forge(int tray, int what, int n) {
        Tray t = trayAt(tray);
        if (t == null || n < -100 || n > 100) {
            return refuse(NO_SUCH);
        }
        switch (what) {
            case 0: return forgeKind(t, Math.floorMod(n, KINDS));
            case 1: return forgeHeader(t, n);
            case 2: return n < 0 ? refuse(HOST_BELOW_0) : done(n);
            case 3: return forgeCopy(t, n);
            case 4: return forgeRow(t);
            case 5: return n == 0 ? refuse(HOST_BY_0) : done(100 / n);
            case 6: return Math.floorMod(n, 2) == 0 ? refuse(HOST_NOTHING) : done(1);
            default: return refuse(NO_SUCH);
        }
    }

    public int status() {
        return latest;
    }

    // ---- how a call ends ----

    private int refuse(int why) {
        latest = why;
        return -1;
    }

    private int done(int answer) {
        latest = 0;
        return answer;
    }

    // ---- what a number stands for: null, if for nothing ----

    private End endAt(int end) {
        return end >= 0 && end < endCount ? ends[end] : null;
    }

    private End lowerOf(int pair) {
        return pair >= 0 && pair < PAIRS ? endAt(2 * pair) : null;
    }

    private End otherOf(int pair) {
        return pair >= 0 && pair < PAIRS ? endAt(2 * pair + 1) : null;
    }

    private Letter letterAt(int letter) {
        return letter >= 0 && letter < tick ? letters[letter] : null;
    }

    private Tray trayAt(int tray) {
        return tray >= 0 && tray < TRAYS ? trays[tray] : null;
    }

    private static int valueOf(Thing t) {
        return t == null ? -1 : t.value;
    }

    // ---- how an END takes a LETTER ----

    private int takeByKept(End e, Letter l, int kept) {
        int b = opened(l, e.kept[kept].value);
        if (b == NONE) {
            return refuse(NOT_GOOD);
        }
        e.drop(kept);
        return done(b);
    }

    private int takeByChain(End e, Letter l) {
        if (l.place() < e.past) {
            return refuse(TOO_LATE);
        }
        int further = l.place() - e.past;
        if (further > most) {
            return refuse(TOO_FAR);
        }
        int b = opened(l, keyAhead(e.taking.value, further));
        if (b == NONE) {
            return refuse(NOT_GOOD);
        }
        skipTo(e, l.place());
        passOne(e);
        return done(b);
    }

    private int takeNewPublic(End e, Letter l) {
        if (l.from() == e.from || e.hasLeft(l.from())) {
            return refuse(TOO_LATE);
        }
        int late = e.taking == null ? 0 : Math.max(0, l.before() - e.past);
        if (late + l.place() > most) {
            return refuse(TOO_FAR);
        }
        if (e.rowCount == 0) {
            return refuse(EMPTY_ROW);
        }
        // Worked out by values first, since a refused LETTER may not let any THING come.
        int meeting = arithmetic.power(l.from(), e.own.value);
        int chain = arithmetic.mix(arithmetic.mix(e.root.value, meeting), 3);
        int b = opened(l, keyAhead(chain, l.place()));
        if (b == NONE) {
            return refuse(NOT_GOOD);
        }
        if (late > 0) {
            skipTo(e, l.before());
        }
        turn(e, l);
        return done(b);
    }

    /** A good LETTER under a new PUBLIC: a new TAKING CHAIN to behind its place, then a new SENDING CHAIN. */
    private void turn(End e, Letter l) {
        Thing between = things.rootOf(e.root, meetingAt(e, l.secret));
        e.leave();
        e.from = l.from();
        e.taking = things.chainOf(between);
        e.past = 0;
        skipTo(e, l.place());
        passOne(e);
        e.own = e.nextSecret();
        e.root = things.rootOf(between, meetingAt(e, l.secret));
        e.sending = things.chainOf(e.root);
        e.before = e.sent;
        e.sent = 0;
    }

    /** The lower END's SECRET always stands first, so that both ENDS find the same MEETING. */
    private Thing meetingAt(End e, Thing theirs) {
        return e.number % 2 == 0 ? things.meetingOf(e.own, theirs) : things.meetingOf(theirs, e.own);
    }

    private void skipTo(End e, int place) {
        for (int i = e.past; i < place; i++) {
            e.keep(new Skipped(things.keyOf(e.taking), e.from, i, tick));
            e.taking = things.nextOf(e.taking);
            e.past++;
        }
    }

    private void passOne(End e) {
        things.keyOf(e.taking);
        e.taking = things.nextOf(e.taking);
        e.past++;
    }

    /** The VALUE of the KEY that stands so many places further in a CHAIN. */
    private int keyAhead(int chain, int places) {
        int value = chain;
        for (int i = 0; i < places; i++) {
            value = arithmetic.mix(value, 2);
        }
        return arithmetic.mix(value, 1);
    }

    /** The byte of a LETTER that is GOOD by a KEY, or NONE. */
    private int opened(Letter l, int key) {
        int b = (l.text - key) & 255;
        return arithmetic.mix(key, b) == l.check ? b : NONE;
    }

    private void endOldSkipped() {
        for (int i = 0; i < endCount; i++) {
            ends[i].endOld(tick, life);
        }
    }

    // ---- what comes into a TRAY ----

    private int holdOfLetter(Tray t, int what, Letter l) {
        if (l == null) {
            return refuse(NO_SUCH);
        }
        if (what == 1) {
            t.put(l.key, null);
        } else {
            t.put(null, l);
        }
        return done(1);
    }

    private int holdOfEnd(Tray t, int what, End e) {
        if (e == null) {
            return refuse(NO_SUCH);
        }
        if (!e.started) {
            return refuse(NOT_SO);
        }
        switch (what) {
            case 3: t.put(e.root, null); break;
            case 4: t.put(e.sending, null); break;
            case 5: t.put(e.taking, null); break;
            case 6: t.put(e.own, null); break;
            default: t.put(e.keptCount > 0 ? e.kept[0] : null, null); break;
        }
        return done(1);
    }

    // ---- what the host does with what a TRAY has ----

    private int forgeKind(Tray t, int wanted) {
        if (t.mail != null) {
            return refuse(HOST_OTHER_KIND);
        }
        if (t.thing == null) {
            return refuse(HOST_NOTHING);
        }
        return isUnder(t.thing.kind, wanted) ? done(t.thing.value) : refuse(HOST_OTHER_KIND);
    }

    private int forgeHeader(Tray t, int n) {
        if (t.thing != null) {
            return refuse(HOST_OTHER_KIND);
        }
        if (t.mail == null) {
            return refuse(HOST_NOTHING);
        }
        int[] header = t.mail.header;
        return n >= 0 && n < header.length ? done(header[n]) : refuse(HOST_OUTSIDE);
    }

    private int forgeCopy(Tray t, int n) {
        if (t.thing != null) {
            return refuse(HOST_OTHER_KIND);
        }
        if (t.mail == null) {
            return refuse(HOST_NOTHING);
        }
        int[] header = t.mail.header;
        // The row of 5 need not be made: the cells that no number is copied to are 0 and add nothing to the sum.
        if (n < 0 || 1 + n > header.length || n + n > 5) {
            return refuse(HOST_OUTSIDE);
        }
        int sum = 0;
        for (int i = 1; i <= n; i++) {
            sum += header[i];
        }
        return done(sum);
    }

    private int forgeRow(Tray t) {
        if (t.mail != null) {
            return refuse(HOST_OTHER_KIND);
        }
        if (t.thing == null) {
            return done(0);
        }
        return isUnder(t.thing.kind, CHAIN) ? done(1) : refuse(HOST_NO_FIT);
    }

    // ---- KINDS and BODIES ----

    /** The KIND right above one, NONE above KEY. */
    private static int above(int kind) {
        switch (kind) {
            case CHAIN:
            case SECRET:
            case SKIPPED:
                return KEY;
            case ROOT:
                return CHAIN;
            case MEETING:
                return SECRET;
            default:
                return NONE;
        }
    }

    private static boolean isUnder(int kind, int wanted) {
        int k = kind;
        for (int i = 0; i < KINDS && k != wanted; i++) {
            k = above(k);
        }
        return k == wanted;
    }

    /** The number of the body that a KIND itself has for an ACT, or NONE. */
    private static int ownBody(int kind, int act) {
        switch (kind * ACTS + act) {
            case KEY * ACTS + MOVE: return 10;
            case KEY * ACTS + MIX: return 11;
            case KEY * ACTS + END: return 12;
            case KEY * ACTS + TELL: return 13;
            case CHAIN * ACTS + MOVE: return 20;
            case CHAIN * ACTS + END: return 21;
            case ROOT * ACTS + TELL: return 30;
            case SECRET * ACTS + MIX: return 40;
            case SKIPPED * ACTS + END: return 50;
            case MEETING * ACTS + TELL: return 60;
            case MEETING * ACTS + MIX: return 61;
            default: return NONE;
        }
    }

    /** Runs the body for an ACT that stands nearest to a KIND, the KIND itself or one above it. */
    private static int run(Trace trace, Thing t, int kind, int act, int x, int depth) {
        int k = kind;
        for (int i = 0; i < KINDS && ownBody(k, act) == NONE; i++) {
            k = above(k);
        }
        int body = ownBody(k, act);
        if (body == NONE || depth > DEEPEST) {
            return 0;
        }
        int over = above(k);
        int deeper = depth + 1;
        trace.note(body);
        switch (body) {
            case 10: return x + t.value;
            case 11: return run(trace, t, t.kind, MOVE, x, deeper) * 3;
            case 12: return run(trace, t, t.kind, MIX, x, deeper) - run(trace, t, t.kind, TELL, x, deeper);
            case 13: return x ^ t.value;
            case 20: return run(trace, t, over, MOVE, x, deeper) * 2;
            case 21: return run(trace, t, over, END, x + 1, deeper);
            case 30: return run(trace, t, over, TELL, x, deeper) - 1;
            case 40: return run(trace, t, over, MIX, x, deeper) + 5;
            case 50: return run(trace, t, over, END, x, deeper) + tickOf(t);
            case 60: return run(trace, t, over, TELL, x, deeper) * 2;
            case 61: return run(trace, t, over, MIX, x, deeper) - run(trace, t, t.kind, MOVE, x, deeper);
            default: return 0;
        }
    }

    private static int tickOf(Thing t) {
        return t instanceof Skipped s ? s.tick : 0;
    }

    /** The modulus, the base and what is worked out by them. */
    private static final class Arithmetic {
        int modulus = 101;
        int base = 2;

        int mix(int x, int y) {
            return modulus > 0 ? (31 * x + 17 * y + x * y + 7) % modulus : 0;
        }

        int power(int number, int exponent) {
            if (modulus <= 0) {
                return 0;
            }
            int result = 1;
            int square = number % modulus;
            for (int e = exponent; e > 0; e >>= 1) {
                if ((e & 1) == 1) {
                    result = result * square % modulus;
                }
                square = square * square % modulus;
            }
            return result;
        }

        int publicOf(int s) {
            return power(base, s);
        }
    }

    /** A THING; it remembers what it comes of, and what came of it, so that nothing comes twice. */
    private static class Thing {
        final int kind;
        final int value;
        final Thing of;
        final Thing with;
        Thing firstOfIt;
        Thing beside;
        boolean shown;
        int stepCount = NONE;

        Thing(int kind, int value, Thing of, Thing with) {
            this.kind = kind;
            this.value = value;
            this.of = of;
            this.with = with;
        }

        /** The STEPS by which OTHER KNOWS it, if those of what it comes of are right. */
        int stepsNow() {
            if (shown) {
                return 0;
            }
            if (of == null) {
                return NONE;
            }
            if (with == null) {
                return of.stepCount == NONE ? NONE : of.stepCount + 1;
            }
            int less = Math.min(of.stepCount, with.stepCount);
            int greater = Math.max(of.stepCount, with.stepCount);
            if (kind == MEETING) {
                // One KNOWN SECRET is enough, the nearer of two.
                return greater == NONE ? NONE : 1 + (less == NONE ? greater : less);
            }
            return less == NONE ? NONE : greater + 1;
        }
    }

    /** A KEY that an END keeps, with its PUBLIC, its place and THE TICK of then. */
    private static final class Skipped extends Thing {
        final Thing key;
        final int from;
        final int place;
        final int tick;

        Skipped(Thing key, int from, int place, int tick) {
            super(SKIPPED, key.value, key, null);
            this.key = key;
            this.from = from;
            this.place = place;
            this.tick = tick;
        }
    }

    /** All THINGS that came, in their order: what a THING comes of always stands before it. */
    private static final class Things {
        final Arithmetic arithmetic = new Arithmetic();
        final ArrayList<Thing> came = new ArrayList<Thing>();
        int knownOnes;

        Thing newSecret(int s) {
            Thing t = new Thing(SECRET, s, null, null);
            came.add(t);
            return t;
        }

        Thing meetingOf(Thing lower, Thing other) {
            int value = arithmetic.power(arithmetic.publicOf(other.value), lower.value);
            return comeOf(lower, MEETING, other, value);
        }

        Thing firstRootOf(Thing meeting) {
            return comeOf(meeting, ROOT, null, meeting.value);
        }

        Thing rootOf(Thing root, Thing meeting) {
            return comeOf(root, ROOT, meeting, arithmetic.mix(root.value, meeting.value));
        }

        Thing chainOf(Thing root) {
            return comeOf(root, CHAIN, null, arithmetic.mix(root.value, 3));
        }

        Thing nextOf(Thing chain) {
            return comeOf(chain, CHAIN, null, arithmetic.mix(chain.value, 2));
        }

        Thing keyOf(Thing chain) {
            return comeOf(chain, KEY, null, arithmetic.mix(chain.value, 1));
        }

        /** The one THING of a KIND that comes of these: found, if it came before. */
        private Thing comeOf(Thing of, int kind, Thing with, int value) {
            for (Thing t = of.firstOfIt; t != null; t = t.beside) {
                if (t.kind == kind && t.with == with) {
                    return t;
                }
            }
            Thing made = new Thing(kind, value, of, with);
            made.beside = of.firstOfIt;
            of.firstOfIt = made;
            made.stepCount = made.stepsNow();
            if (made.stepCount != NONE) {
                knownOnes++;
            }
            came.add(made);
            return made;
        }

        /** Answers 1 if a THING had not been shown before; settle() is due behind the last one. */
        int show(Thing t) {
            if (t == null || t.shown) {
                return 0;
            }
            t.shown = true;
            return 1;
        }

        /** One pass is enough, since a THING stands behind all that it comes of. */
        void settle() {
            knownOnes = 0;
            for (int i = 0; i < came.size(); i++) {
                Thing t = came.get(i);
                t.stepCount = t.stepsNow();
                if (t.stepCount != NONE) {
                    knownOnes++;
                }
            }
        }
    }

    /** An END; own and root are there when it is started, the CHAINS may be null even then. */
    private static final class End {
        final int number;
        final Thing[] row = new Thing[ROW];
        int rowCount;
        boolean started;
        Thing own;
        Thing root;
        Thing sending;
        Thing taking;
        int from = NONE;
        int sent;
        int before;
        int past;
        final Skipped[] kept = new Skipped[KEPT];
        int keptCount;
        final int[] left = new int[LETTERS];
        int leftCount;

        End(int number) {
            this.number = number;
        }

        /** Only asked when the ROW is not empty. */
        Thing nextSecret() {
            Thing next = row[0];
            for (int i = 1; i < rowCount; i++) {
                row[i - 1] = row[i];
            }
            rowCount--;
            row[rowCount] = null;
            return next;
        }

        /** Each LETTER can bring a new PUBLIC once, so there is room for all that are left. */
        void leave() {
            if (from != NONE && leftCount < left.length) {
                left[leftCount] = from;
                leftCount++;
            }
        }

        boolean hasLeft(int number) {
            for (int i = 0; i < leftCount; i++) {
                if (left[i] == number) {
                    return true;
                }
            }
            return false;
        }

        void keep(Skipped s) {
            if (keptCount >= KEPT) {
                drop(0);
            }
            kept[keptCount] = s;
            keptCount++;
        }

        /** Only asked of a place below keptCount. */
        void drop(int place) {
            for (int i = place + 1; i < keptCount; i++) {
                kept[i - 1] = kept[i];
            }
            keptCount--;
            kept[keptCount] = null;
        }

        int keptFor(Letter l) {
            for (int i = 0; i < keptCount; i++) {
                if (kept[i].from == l.from() && kept[i].place == l.place()) {
                    return i;
                }
            }
            return NONE;
        }

        /** They stand in the order of their TICKS, so those that end stand first. */
        void endOld(int tick, int life) {
            for (int i = keptCount; i > 0 && tick - kept[0].tick > life; i--) {
                drop(0);
            }
        }
    }

    /** A LETTER: its header is the PUBLIC, BEFORE and the number n in its CHAIN. */
    private static final class Letter {
        final int sender;
        final Thing secret;
        final Thing key;
        final int[] header = new int[3];
        int text;
        int check;

        Letter(End e, Thing key) {
            sender = e.number;
            secret = e.own;
            this.key = key;
            header[1] = e.before;
            header[2] = e.sent;
        }

        int from() {
            return header[0];
        }

        int before() {
            return header[1];
        }

        int place() {
            return header[2];
        }
    }

    /** What is put in stays, whatever becomes of it: a THING, a LETTER, or neither. */
    private static final class Tray {
        Thing thing;
        Letter mail;

        void put(Thing thing, Letter mail) {
            this.thing = thing;
            this.mail = mail;
        }
    }

    /** The first bodies that began in the latest act(). */
    private static final class Trace {
        final int[] bodies = new int[TRACED];
        int kept;

        void note(int body) {
            if (kept < bodies.length) {
                bodies[kept] = body;
                kept++;
            }
        }
    }
}
