import java.util.Random;

/**
 * Long random runs with wild numbers, far beyond the 512 calls that the document speaks of: no call may throw, none may
 * leave a STATUS that is not told, and what is kept stays small.
 */
public final class EndureTest {
    private static final int RUNS = 60;
    private static final int CALLS = 8000;
    /** Each of 300 LETTERS brings a KEY and a CHAIN, lets at most 13 of both come when taken, and 7 THINGS of a turn. */
    private static final int MOST_THINGS = 144 + 6 * 8 + 300 * (2 + 2 * 13 + 7);
    private static final int[] WILD = {Integer.MIN_VALUE, Integer.MIN_VALUE + 1, -1000, -101, -2, -1, 513, 10001, 1 << 30, Integer.MAX_VALUE};
    private static final int[] MODULI = {3, 4, 5, 7, 101, 10007};

    private final Random random;
    private final RatchetPost post = new RatchetPost();

    private EndureTest(long seed) {
        random = new Random(seed);
    }

    public static void main(String[] args) {
        int full = 0;
        for (int seed = 0; seed < RUNS; seed++) {
            EndureTest run = new EndureTest(seed);
            run.play();
            full += run.post.count(1) == 300 ? 1 : 0;
        }
        need(full > RUNS / 2, "only " + full + " runs came to 300 LETTERS");
        System.out.println(RUNS + " runs of " + CALLS + " calls each were endured");
    }

    private void play() {
        post.prime(MODULI[random.nextInt(MODULI.length)], 2);
        post.limits(random.nextInt(13), random.nextInt(301));
        for (int i = 0; i < CALLS; i++) {
            int[] call = random.nextInt(3) == 0 ? wild() : sensible();
            Calls.answer(post, call);
            int status = post.status();
            need(status >= 0 && status <= 7 || status >= 10 && status <= 15, Calls.text(call) + " left STATUS " + status);
        }
        need(post.count(0) <= 6 && post.count(1) <= 300, "too many PAIRS or LETTERS");
        need(post.count(2) <= MOST_THINGS, post.count(2) + " THINGS came");
        for (int end = 0; end < 12; end++) {
            need(post.told(end, 0) <= 12 && post.told(end, 9) <= 12, "END " + end + " keeps too much");
        }
    }

    private static void need(boolean so, String otherwise) {
        if (!so) {
            throw new IllegalStateException(otherwise);
        }
    }

    /** Any call with any numbers, some of which are small. */
    private int[] wild() {
        int[] call = new int[4];
        call[0] = random.nextInt(Calls.NAMES.length);
        for (int i = 1; i < 4; i++) {
            int kind = random.nextInt(4);
            call[i] = kind == 0 ? random.nextInt() : kind == 1 ? WILD[random.nextInt(WILD.length)] : random.nextInt(15) - 1;
        }
        return call;
    }

    /** Calls that let PAIRS go on: SECRETS, LETTERS (slowly, since there are 300 in all), and takes of the PARTNER's. */
    private int[] sensible() {
        switch (random.nextInt(8)) {
            case 0: return Calls.call("pair");
            case 1: return Calls.call("start", random.nextInt(6));
            case 2: case 3: return Calls.call("secret", random.nextInt(12), 1 + random.nextInt(20));
            case 4: return random.nextBoolean() ? Calls.call("status") : Calls.call("send", random.nextInt(12), random.nextInt(256));
            default: break;
        }
        int letter = Math.max(0, post.count(1) - 1 - random.nextInt(10));
        int sender = post.letter(letter, 0);
        return Calls.call("take", sender < 0 ? 0 : sender ^ 1, letter);
    }
}
