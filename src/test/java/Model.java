import java.math.BigInteger;
import java.util.ArrayList;
import java.util.HashMap;
import java.util.HashSet;
import java.util.List;
import java.util.Map;
import java.util.Set;
import java.util.function.IntSupplier;

/**
 * The document told a second time, slowly and by other means than the program: THINGS are numbered texts, KNOWN is
 * worked out anew for each question, a refused take is undone by a copy, and KINDS, BODIES and the host are Java's
 * own classes, casts and exceptions.
 */
final class Model {
    private static final class Refused extends RuntimeException {
        private static final long serialVersionUID = 1L;
        final int status;

        Refused(int status) {
            this.status = status;
        }
    }

    static final class Made {
        final String how;
        final int kind;
        final int value;
        boolean shown;

        Made(String how, int kind, int value) {
            this.how = how;
            this.kind = kind;
            this.value = value;
        }
    }

    static final class Kept {
        int from;
        int place;
        int key;
        int then;
        int value;
    }

    static final class Post {
        int end;
        int secret;
        int key;
        Integer[] header;
        int text;
        int check;
    }

    static final class Side {
        List<Integer> row = new ArrayList<>();
        boolean started;
        Integer own;
        Integer root;
        Integer sending;
        Integer taking;
        Integer from;
        int sent;
        int before;
        int past;
        List<Kept> kept = new ArrayList<>();
        Set<Integer> left = new HashSet<>();

        Side copy() {
            Side s = new Side();
            s.row = new ArrayList<>(row);
            s.started = started;
            s.own = own;
            s.root = root;
            s.sending = sending;
            s.taking = taking;
            s.from = from;
            s.sent = sent;
            s.before = before;
            s.past = past;
            s.kept = new ArrayList<>(kept);
            s.left = new HashSet<>(left);
            return s;
        }
    }

    int q = 101;
    int g = 2;
    int most = 6;
    int life = 50;
    List<Side> sides = new ArrayList<>();
    List<Post> posts = new ArrayList<>();
    List<Made> made = new ArrayList<>();
    Map<String, Integer> byHow = new HashMap<>();
    Object[] trays = new Object[8];
    List<Integer> trace = new ArrayList<>();
    int status;
    /** Which of the three cases the latest take that was done went by; only for the tests' own counts. */
    int way;

    // ---- STATUS ----

    private int doing(IntSupplier what) {
        try {
            int answer = what.getAsInt();
            status = 0;
            return answer;
        } catch (Refused r) {
            status = r.status;
            return -1;
        }
    }

    private static void need(boolean so, int otherwise) {
        if (!so) {
            throw new Refused(otherwise);
        }
    }

    private boolean isEnd(int end) {
        return 0 <= end && end < sides.size();
    }

    private boolean isPair(int pair) {
        return 0 <= pair && pair < sides.size() / 2;
    }

    private boolean isLetter(int letter) {
        return 0 <= letter && letter < posts.size();
    }

    // ---- THINGS ----

    private int mix(long x, long y) {
        return (int) ((31 * x + 17 * y + x * y + 7) % q);
    }

    private int power(int b, int e) {
        return BigInteger.valueOf(b).modPow(BigInteger.valueOf(e), BigInteger.valueOf(q)).intValue();
    }

    private int publicOf(int secret) {
        return power(g, value(secret));
    }

    private int value(int thing) {
        return made.get(thing).value;
    }

    private int come(String how, int kind, int value) {
        Integer old = byHow.get(how);
        if (old != null) {
            return old;
        }
        made.add(new Made(how, kind, value));
        byHow.put(how, made.size() - 1);
        return made.size() - 1;
    }

    private int meeting(int s, int t) {
        return come("meeting " + Math.min(s, t) + " " + Math.max(s, t), 5, power(publicOf(s), value(t)));
    }

    private int root(int root, int meeting) {
        return come("root " + root + " " + meeting, 2, mix(value(root), value(meeting)));
    }

    private int chain(int root) {
        return come("chain " + root, 1, mix(value(root), 3));
    }

    private int next(int chain) {
        return come("next " + chain, 1, mix(value(chain), 2));
    }

    private int key(int chain) {
        return come("key " + chain, 0, mix(value(chain), 1));
    }

    /** The STEPS of a THING, null if it is not KNOWN. */
    private Integer steps(int thing, Map<Integer, Integer> found) {
        if (found.containsKey(thing)) {
            return found.get(thing);
        }
        Made m = made.get(thing);
        Integer s = m.shown ? Integer.valueOf(0) : stepsOf(m.how.split(" "), found);
        found.put(thing, s);
        return s;
    }

    private Integer stepsOf(String[] how, Map<Integer, Integer> found) {
        if (how[0].equals("secret")) {
            return null;
        }
        Integer a = steps(Integer.parseInt(how[1]), found);
        if (how.length == 2) {
            return a == null ? null : Integer.valueOf(a + 1);
        }
        Integer b = steps(Integer.parseInt(how[2]), found);
        if (how[0].equals("root")) {
            return a == null || b == null ? null : Integer.valueOf(Math.max(a, b) + 1);
        }
        if (a == null && b == null) {
            return null;
        }
        return 1 + Math.min(a == null ? 1 << 20 : a, b == null ? 1 << 20 : b);
    }

    private boolean isKnown(int thing) {
        return steps(thing, new HashMap<>()) != null;
    }

    // ---- the face, but for TRAYS ----

    int prime(int newQ, int newG) {
        return doing(() -> {
            need(3 <= newQ && newQ <= 10007 && 2 <= newG && newG <= newQ - 1, 1);
            need(sides.isEmpty(), 3);
            q = newQ;
            g = newG;
            return q;
        });
    }

    int limits(int newMost, int newLife) {
        return doing(() -> {
            need(0 <= newMost && newMost <= 12 && 0 <= newLife && newLife <= 300, 1);
            most = newMost;
            life = newLife;
            forget();
            return 1;
        });
    }

    private void forget() {
        for (Side s : sides) {
            s.kept.removeIf(k -> posts.size() - k.then > life);
        }
    }

    int pair() {
        return doing(() -> {
            need(sides.size() < 12, 2);
            sides.add(new Side());
            sides.add(new Side());
            return sides.size() / 2 - 1;
        });
    }

    int secret(int end, int s) {
        return doing(() -> {
            need(isEnd(end) && 1 <= s && s <= 10000, 1);
            need(sides.get(end).row.size() < 12, 2);
            sides.get(end).row.add(come("secret " + made.size(), 3, s));
            return sides.get(end).row.size();
        });
    }

    int start(int pair) {
        return doing(() -> {
            need(isPair(pair), 1);
            Side lower = sides.get(2 * pair);
            Side other = sides.get(2 * pair + 1);
            need(!lower.started && lower.row.size() >= 2 && other.row.size() >= 1, 3);
            int a = lower.row.remove(0);
            int b = other.row.remove(0);
            int m = meeting(a, b);
            other.started = true;
            other.own = b;
            other.root = come("first " + m, 2, value(m));
            lower.started = true;
            lower.own = lower.row.remove(0);
            lower.root = root(other.root, meeting(lower.own, b));
            lower.sending = chain(lower.root);
            lower.from = publicOf(b);
            return 1;
        });
    }

    int send(int end, int b) {
        return doing(() -> {
            need(isEnd(end) && 0 <= b && b <= 255, 1);
            need(posts.size() < 300, 2);
            Side s = sides.get(end);
            need(s.started && s.sending != null, 3);
            Post p = new Post();
            p.end = end;
            p.secret = s.own;
            p.key = key(s.sending);
            p.header = new Integer[] {publicOf(s.own), s.before, s.sent};
            p.text = (b + value(p.key)) % 256;
            p.check = mix(value(p.key), b);
            posts.add(p);
            s.sending = next(s.sending);
            s.sent++;
            forget();
            return posts.size() - 1;
        });
    }

    int alter(int letter, int mask) {
        return doing(() -> {
            need(isLetter(letter) && 1 <= mask && mask <= 255, 1);
            posts.get(letter).text ^= mask;
            return 1;
        });
    }

    int take(int end, int letter) {
        List<Side> oldSides = new ArrayList<>();
        for (Side s : sides) {
            oldSides.add(s.copy());
        }
        int oldMade = made.size();
        int answer = doing(() -> {
            need(isEnd(end) && isLetter(letter), 1);
            need(posts.get(letter).end / 2 == end / 2 && posts.get(letter).end != end, 3);
            return taken(sides.get(end), posts.get(letter));
        });
        if (status != 0) {
            sides = oldSides;
            while (made.size() > oldMade) {
                byHow.remove(made.remove(made.size() - 1).how);
            }
        }
        return answer;
    }

    private int taken(Side s, Post p) {
        int from = p.header[0];
        int before = p.header[1];
        int n = p.header[2];
        for (Kept k : s.kept) {
            if (k.from == from && k.place == n) {
                int b = opened(p, k.key);
                s.kept.remove(k);
                way = 1;
                return b;
            }
        }
        if (s.from != null && s.from == from && s.taking != null) {
            need(n >= s.past, 4);
            need(n - s.past <= most, 5);
            way = 2;
            return openedBehind(s, p, n);
        }
        need(!s.left.contains(from) && (s.from == null || s.from != from), 4);
        int late = s.taking != null && before > s.past ? before - s.past : 0;
        need(late + n <= most, 5);
        need(!s.row.isEmpty(), 6);
        if (s.taking != null) {
            skip(s, before);
        }
        int between = root(s.root, meeting(s.own, p.secret));
        s.taking = chain(between);
        if (s.from != null) {
            s.left.add(s.from);
        }
        s.from = from;
        s.past = 0;
        int b = openedBehind(s, p, n);
        s.own = s.row.remove(0);
        s.root = root(between, meeting(s.own, p.secret));
        s.sending = chain(s.root);
        s.before = s.sent;
        s.sent = 0;
        way = 3;
        return b;
    }

    private void skip(Side s, int to) {
        while (s.past < to) {
            Kept k = new Kept();
            k.from = s.from;
            k.place = s.past;
            k.key = key(s.taking);
            k.value = value(k.key);
            k.then = posts.size();
            s.kept.add(k);
            if (s.kept.size() > 12) {
                s.kept.remove(0);
            }
            s.taking = next(s.taking);
            s.past++;
        }
    }

    private int openedBehind(Side s, Post p, int n) {
        skip(s, n);
        int b = opened(p, key(s.taking));
        s.taking = next(s.taking);
        s.past++;
        return b;
    }

    private int opened(Post p, int key) {
        int b = Math.floorMod(p.text - value(key), 256);
        need(mix(value(key), b) == p.check, 7);
        return b;
    }

    int see(int end) {
        return doing(() -> {
            need(isEnd(end), 1);
            Side s = sides.get(end);
            need(s.started, 3);
            Set<Integer> held = new HashSet<>();
            held.add(s.own);
            held.add(s.root);
            held.add(s.sending);
            held.add(s.taking);
            for (Kept k : s.kept) {
                held.add(k.key);
            }
            held.remove(null);
            int news = 0;
            for (int thing : held) {
                news += made.get(thing).shown ? 0 : 1;
                made.get(thing).shown = true;
            }
            return news;
        });
    }

    int known(int letter) {
        return !isLetter(letter) ? -1 : isKnown(posts.get(letter).key) ? 1 : 0;
    }

    int steps(int letter) {
        Integer s = isLetter(letter) ? steps(posts.get(letter).key, new HashMap<>()) : null;
        return s == null ? -1 : s;
    }

    int heals(int pair) {
        Map<Integer, Integer> found = new HashMap<>();
        for (int i = 0; i < posts.size(); i++) {
            boolean none = posts.get(i).end / 2 == pair;
            for (int j = i; j < posts.size() && none; j++) {
                none = posts.get(j).end / 2 != pair || steps(posts.get(j).key, found) == null;
            }
            if (none) {
                return i;
            }
        }
        return -1;
    }

    int same(int pair) {
        if (!isPair(pair) || !sides.get(2 * pair).started) {
            return -1;
        }
        Side a = sides.get(2 * pair);
        Side b = sides.get(2 * pair + 1);
        int same = 0;
        same += a.root.equals(b.root) ? 1 : 0;
        same += String.valueOf(a.sending).equals(String.valueOf(b.taking)) ? 2 : 0;
        same += String.valueOf(b.sending).equals(String.valueOf(a.taking)) ? 4 : 0;
        return same;
    }

    int told(int end, int what) {
        if (!isEnd(end)) {
            return -1;
        }
        Side s = sides.get(end);
        if (what == 0) {
            return s.row.size();
        }
        if (!s.started || what < 0 || what > 9) {
            return -1;
        }
        Integer[] told = {
            null, publicOf(s.own), value(s.root), s.sending == null ? null : (Integer) value(s.sending),
            s.taking == null ? null : (Integer) value(s.taking), s.from, s.sent, s.before, s.past, s.kept.size(),
        };
        return told[what] == null ? -1 : told[what];
    }

    int skipped(int end, int i, int what) {
        if (!isEnd(end) || i < 0 || i >= sides.get(end).kept.size() || what < 0 || what > 3) {
            return -1;
        }
        Kept k = sides.get(end).kept.get(i);
        return new int[] {k.from, k.place, k.value, k.then}[what];
    }

    int letter(int letter, int what) {
        if (!isLetter(letter) || what < 0 || what > 5) {
            return -1;
        }
        Post p = posts.get(letter);
        return new int[] {p.end, p.header[0], p.header[1], p.header[2], p.text, p.check}[what];
    }

    int count(int what) {
        int knownOnes = 0;
        Map<Integer, Integer> found = new HashMap<>();
        for (int i = 0; what == 3 && i < made.size(); i++) {
            knownOnes += steps(i, found) == null ? 0 : 1;
        }
        int[] counts = {sides.size() / 2, posts.size(), made.size(), knownOnes, Math.min(40, trace.size())};
        return what < 0 || what > 4 ? -1 : counts[what];
    }

    int trace(int i) {
        return i < 0 || i >= Math.min(40, trace.size()) ? -1 : trace.get(i);
    }

    int status() {
        return status;
    }

    // ---- KINDS as Java's own classes ----

    static class Key {
        int v;
        List<Integer> trace;

        int kind() {
            return 0;
        }

        int move(int x) {
            trace.add(10);
            return x + v;
        }

        int mix(int x) {
            trace.add(11);
            return move(x) * 3;
        }

        int end(int x) {
            trace.add(12);
            return mix(x) - tell(x);
        }

        int tell(int x) {
            trace.add(13);
            return x ^ v;
        }
    }

    static class Chain extends Key {
        @Override
        int kind() {
            return 1;
        }

        @Override
        int move(int x) {
            trace.add(20);
            return super.move(x) * 2;
        }

        @Override
        int end(int x) {
            trace.add(21);
            return super.end(x + 1);
        }
    }

    static class Root extends Chain {
        @Override
        int kind() {
            return 2;
        }

        @Override
        int tell(int x) {
            trace.add(30);
            return super.tell(x) - 1;
        }
    }

    static class Secret extends Key {
        @Override
        int kind() {
            return 3;
        }

        @Override
        int mix(int x) {
            trace.add(40);
            return super.mix(x) + 5;
        }
    }

    static class SkippedOne extends Key {
        int t;

        @Override
        int kind() {
            return 4;
        }

        @Override
        int end(int x) {
            trace.add(50);
            return super.end(x) + t;
        }
    }

    /** No MEETING can be put into a TRAY; it is here as a KIND that a THING can be taken for. */
    static class Meeting extends Secret {
    }

    private Key thing(Key k, int value) {
        k.v = value;
        k.trace = trace;
        return k;
    }

    // ---- TRAYS ----

    int hold(int tray, int what, int n) {
        return doing(() -> {
            need(0 <= tray && tray < 8 && 0 <= what && what <= 7, 1);
            need(what == 0 || (what <= 2 ? isLetter(n) : isEnd(n)), 1);
            need(what <= 2 || sides.get(n).started, 3);
            trays[tray] = held(what, n);
            return 1;
        });
    }

    private Object held(int what, int n) {
        if (what == 0) {
            return null;
        }
        if (what <= 2) {
            return what == 2 ? posts.get(n) : thing(new Key(), value(posts.get(n).key));
        }
        Side s = sides.get(n);
        switch (what) {
            case 3: return thing(new Root(), value(s.root));
            case 4: return s.sending == null ? null : thing(new Chain(), value(s.sending));
            case 5: return s.taking == null ? null : thing(new Chain(), value(s.taking));
            case 6: return thing(new Secret(), value(s.own));
            default: break;
        }
        if (s.kept.isEmpty()) {
            return null;
        }
        SkippedOne one = new SkippedOne();
        one.t = s.kept.get(0).then;
        return thing(one, s.kept.get(0).value);
    }

    int tray(int tray) {
        if (tray < 0 || tray > 7) {
            return -1;
        }
        Object o = trays[tray];
        return o == null ? 0 : o instanceof Key ? 2 + ((Key) o).kind() : 1;
    }

    int act(int tray, int act, int x) {
        return doing(() -> {
            need(0 <= tray && tray < 8 && 0 <= act && act < 4, 1);
            need(trays[tray] instanceof Key, 3);
            Key k = (Key) trays[tray];
            trace.clear();
            return act == 0 ? k.move(x) : act == 1 ? k.mix(x) : act == 2 ? k.end(x) : k.tell(x);
        });
    }

    int forge(int tray, int what, int n) {
        return doing(() -> {
            need(0 <= tray && tray < 8 && 0 <= what && what <= 6 && -100 <= n && n <= 100, 1);
            try {
                return forged(trays[tray], what, n);
            } catch (NullPointerException e) {
                throw new Refused(10);
            } catch (ClassCastException e) {
                throw new Refused(11);
            } catch (NegativeArraySizeException e) {
                throw new Refused(13);
            } catch (ArrayStoreException e) {
                throw new Refused(14);
            } catch (IndexOutOfBoundsException e) {
                throw new Refused(12);
            } catch (ArithmeticException e) {
                throw new Refused(15);
            }
        });
    }

    private static int forged(Object o, int what, int n) {
        switch (what) {
            case 0:
                Class<?>[] kinds = {Key.class, Chain.class, Root.class, Secret.class, SkippedOne.class, Meeting.class};
                return ((Key) kinds[((n % 6) + 6) % 6].cast(o)).v;
            case 1:
                return ((Post) o).header[n];
            case 2:
                return new int[n].length;
            case 3:
                Integer[] row = {0, 0, 0, 0, 0};
                System.arraycopy(((Post) o).header, 1, row, n, n);
                return row[0] + row[1] + row[2] + row[3] + row[4];
            case 4:
                Object[] chains = new Chain[1];
                if (o != null) {
                    chains[0] = (Key) o;
                }
                return chains[0] == null ? 0 : 1;
            case 5:
                return 100 / n;
            default:
                return thrown(n % 2 == 0 ? null : new IllegalStateException("caught at once"));
        }
    }

    private static int thrown(RuntimeException failure) {
        try {
            throw failure;
        } catch (IllegalStateException e) {
            return 1;
        }
    }
}
