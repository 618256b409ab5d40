import java.util.ArrayList;
import java.util.List;
import java.util.Random;
import java.util.TreeMap;

/** Plays random runs on the program and on the Model, and compares every answer and every STATUS. */
public final class ModelTest {
    private static final int RUNS = 1500;
    private static final int[][] PRIMES = {
        {101, 2}, {1009, 11}, {10007, 5}, {10007, 10006}, {3, 2}, {5, 2}, {7, 3}, {11, 2}, {4, 2}, {8, 2}, {12, 5}, {23, 5},
    };

    private final Random random;
    private final Model model = new Model();
    private final RatchetPost post = new RatchetPost();
    private final List<int[]> run = new ArrayList<>();
    private final TreeMap<String, Integer> met;
    private boolean wrong;

    private ModelTest(long seed, TreeMap<String, Integer> met) {
        random = new Random(seed);
        this.met = met;
    }

    public static void main(String[] args) {
        TreeMap<String, Integer> met = new TreeMap<>();
        for (int seed = 0; seed < RUNS; seed++) {
            if (!new ModelTest(seed, met).play()) {
                System.out.println("run with seed " + seed + " is not as due");
                System.exit(1);
            }
        }
        if (!meetsAll(met)) {
            System.exit(1);
        }
        System.out.println(RUNS + " runs are as the model's");
    }

    /** The runs are only worth something if they come by everything that the document tells of. */
    private static boolean meetsAll(TreeMap<String, Integer> met) {
        String[] due = {
            "prime 0", "prime 1", "prime 3", "limits 0", "limits 1", "pair 0", "pair 2", "secret 0", "secret 1",
            "secret 2", "start 0", "start 1", "start 3", "send 0", "send 1", "send 2", "send 3", "alter 0", "alter 1",
            "take 0", "take 1", "take 3", "take 4", "take 5", "take 6", "take 7", "see 0", "see 1", "see 3",
            "hold 0", "hold 1", "hold 3", "act 0", "act 1", "act 3", "forge 0", "forge 1", "forge 10", "forge 11",
            "forge 12", "forge 13", "forge 14", "forge 15", "way 1", "way 2", "way 3",
            "tray 0", "tray 1", "tray 2", "tray 3", "tray 4", "tray 5", "tray 6",
            "kept 0", "kept 1", "kept 11", "kept 12", "same 0", "same 2", "same 4",
        };
        boolean all = true;
        for (String what : due) {
            if (met.getOrDefault(what, 0) < 10) {
                System.out.println("the runs hardly met: " + what);
                all = false;
            }
        }
        return all;
    }

    private boolean play() {
        int manner = random.nextInt(10);
        begin();
        if (manner == 0) {
            fill();
        }
        while (run.size() < Calls.MOST_CALLS && !wrong) {
            if (manner == 1) {
                stepLate();
            }
            step();
        }
        return !wrong;
    }

    /** All 300 LETTERS, sent without asking for STATUS each time, so that calls are left behind them. */
    private void fill() {
        for (int i = 0; i < 300 && !wrong; i++) {
            compare(Calls.call("send", 0, i & 255));
        }
    }

    /** Many LETTERS that come late: of a burst the last one is taken first. */
    private void stepLate() {
        ask("limits", 12, 300);
        int end = random.nextInt(2);
        for (int i = random.nextInt(13); i >= 0; i--) {
            ask("send", end, random.nextInt(256));
        }
        ask("secret", end ^ 1, secret());
        ask("take", end ^ 1, model.posts.size() - 1);
        meet("kept " + ask("told", end ^ 1, 9));
    }

    private void begin() {
        if (random.nextInt(4) != 0) {
            int[] prime = PRIMES[random.nextInt(PRIMES.length)];
            ask("prime", prime[0], prime[1]);
        }
        if (random.nextInt(8) == 0) {
            ask("prime", near(3, 10007), near(2, 20));
        }
        if (random.nextInt(3) != 0) {
            ask("limits", random.nextInt(13), random.nextInt(3) == 0 ? random.nextInt(301) : random.nextInt(30));
        }
        int pairs = 1 + random.nextInt(random.nextInt(5) == 0 ? 6 : 2);
        for (int p = 0; p < pairs; p++) {
            ask("pair");
            for (int i = random.nextInt(6); i >= 0; i--) {
                ask("secret", 2 * p, secret());
                ask("secret", 2 * p, secret());
                ask("secret", 2 * p + 1, secret());
            }
            if (random.nextInt(5) != 0) {
                ask("start", p);
            }
        }
    }

    private int secret() {
        return random.nextInt(3) == 0 ? 1 + random.nextInt(10000) : 1 + random.nextInt(40);
    }

    /** A number between the two, or now and then one on or just over the edge, or anywhere. */
    private int near(int low, int high) {
        switch (random.nextInt(12)) {
            case 0: return low - 1;
            case 1: return high + 1;
            case 2: return low;
            case 3: return high;
            case 4: return random.nextInt(6) == 0 ? random.nextInt() : low;
            default: return low + random.nextInt(high - low + 1);
        }
    }

    private int someEnd() {
        return random.nextInt(15) == 0 ? near(0, 11) : random.nextInt(Math.max(1, model.sides.size()));
    }

    private int someLetter() {
        int letters = model.posts.size();
        return random.nextInt(15) == 0 ? near(0, Math.max(1, letters - 1)) : random.nextInt(Math.max(1, letters));
    }

    private void step() {
        int dice = random.nextInt(100);
        if (dice < 26) {
            ask("send", someEnd(), random.nextInt(20) == 0 ? near(0, 255) : random.nextInt(256));
        } else if (dice < 54) {
            stepTake();
        } else if (dice < 62) {
            ask("secret", someEnd(), random.nextInt(20) == 0 ? near(1, 10000) : secret());
        } else if (dice < 65) {
            ask("see", someEnd());
        } else if (dice < 67) {
            ask("alter", someLetter(), random.nextInt(4) == 0 ? near(1, 255) : 1 << random.nextInt(8));
        } else if (dice < 69) {
            ask("limits", near(0, 12), random.nextInt(2) == 0 ? near(0, 300) : random.nextInt(20));
        } else if (dice < 71) {
            stepSeldom();
        } else if (dice < 84) {
            stepTray();
        } else {
            stepQuestion();
        }
    }

    /** Mostly the PARTNER's, mostly one of the latest LETTERS. */
    private void stepTake() {
        int letters = model.posts.size();
        int letter = letters > 0 && random.nextInt(3) != 0 ? letters - 1 - random.nextInt(Math.min(letters, 12)) : someLetter();
        boolean partner = letter >= 0 && letter < letters && random.nextInt(15) != 0;
        model.way = 0;
        ask("take", partner ? model.posts.get(letter).end ^ 1 : someEnd(), letter);
        if (model.status == 0 && model.way > 0) {
            meet("way " + model.way);
        }
    }

    private void stepSeldom() {
        switch (random.nextInt(3)) {
            case 0: ask("pair"); break;
            case 1: ask("start", near(0, 5)); break;
            default: ask("prime", near(3, 10007), near(2, 20)); break;
        }
    }

    private void stepTray() {
        int tray = random.nextInt(20) == 0 ? near(0, 7) : random.nextInt(8);
        switch (random.nextInt(4)) {
            case 0:
                int what = random.nextInt(10) == 0 ? near(0, 7) : random.nextInt(8);
                ask("hold", tray, what, what <= 2 ? someLetter() : someEnd());
                break;
            case 1:
                ask("act", tray, random.nextInt(10) == 0 ? near(0, 3) : random.nextInt(4), random.nextInt(3) == 0 ? random.nextInt() : near(-9, 9));
                ask("count", 4);
                ask("trace", near(0, 8));
                break;
            default:
                ask("forge", tray, random.nextInt(10) == 0 ? near(0, 6) : random.nextInt(7), random.nextInt(3) == 0 ? near(-100, 100) : near(-7, 7));
                break;
        }
    }

    private void stepQuestion() {
        switch (random.nextInt(11)) {
            case 0: ask("known", someLetter()); break;
            case 1: ask("steps", someLetter()); break;
            case 2: ask("heals", random.nextInt(3) == 0 ? near(0, 5) : 0); break;
            case 3: meet("same " + ask("same", random.nextInt(3) == 0 ? near(0, 5) : 0)); break;
            case 4: ask("told", someEnd(), near(0, 9)); break;
            case 5: ask("skipped", someEnd(), near(0, 3), near(0, 3)); break;
            case 6: ask("letter", someLetter(), near(0, 5)); break;
            case 7: ask("count", near(0, 4)); break;
            case 8: meet("tray " + ask("tray", near(0, 7))); break;
            case 9: ask("trace", near(0, 39)); break;
            default: meet("kept " + ask("told", random.nextInt(2), 9)); break;
        }
    }

    private void meet(String what) {
        met.merge(what, 1, Integer::sum);
    }

    private int ask(String name, int... arguments) {
        int[] c = Calls.call(name, arguments);
        int answer = compare(c);
        if (c[0] < Calls.FIRST_QUESTION) {
            meet(name + " " + compare(Calls.call("status")));
        }
        return answer;
    }

    private int compare(int[] c) {
        if (run.size() >= Calls.MOST_CALLS || wrong) {
            return -1;
        }
        run.add(c);
        int due = Calls.answer(model, c);
        int got = Calls.answer(post, c);
        if (got != due) {
            wrong = true;
            for (int[] before : run) {
                System.out.println("  " + Calls.text(before));
            }
            System.out.println("the last one answered " + got + ", due is " + due);
        }
        return due;
    }
}
