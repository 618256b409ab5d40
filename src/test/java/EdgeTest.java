import java.util.List;

/**
 * Sentence by sentence of the document: each boundary case that it names, at both ends. Each group stands under the
 * words that it is about; PromiseTest has the ordinary calls of each promise.
 */
public final class EdgeTest extends Checks {
    private EdgeTest() {
    }

    public static void main(String[] args) {
        numbersThatAreTold();
        numbersOfEnds();
        numbersOfPairs();
        numbersOfLetters();
        numbersOfTrays();
        numbersOfWhat();
        severalHold();
        eachStatus();
        newObject();
        calls512();
        arithmetic();
        rows();
        thingsCome();
        starts();
        letters();
        toOpen();
        keptOnesOpen();
        chainGoesOn();
        newPublicComes();
        publicsAreNumbers();
        opensByAnothersChain();
        nothingChanges();
        twelveAreKept();
        theyEnd();
        seen();
        knows();
        steps();
        heals();
        same();
        acts();
        traysKeep();
        hostsEdges();
        finish("each edge holds");
    }

    // ---- runs ----

    /** Six PAIRS with full ROWS, none STARTED. */
    private static List<int[]> sixFilled() {
        List<int[]> run = run();
        for (int pair = 0; pair < 6; pair++) {
            run = behind(run, "pair");
            run = repeated(run, 12, "secret " + 2 * pair + " " + (3 + pair));
            run = repeated(run, 12, "secret " + (2 * pair + 1) + " " + (9 + pair));
        }
        return run;
    }

    /** Six PAIRS STARTED, each END of which can send, with room in each ROW and a SKIPPED one at each END. */
    private static List<int[]> sixMet() {
        List<int[]> run = run();
        int letter = 0;
        for (int pair = 0; pair < 6; pair++) {
            int lower = 2 * pair;
            int other = lower + 1;
            run = behind(run, "pair", "secret " + lower + " 3", "secret " + lower + " 4", "secret " + lower + " 5", "secret " + lower + " 11",
                "secret " + other + " 6", "secret " + other + " 7", "secret " + other + " 12", "start " + pair,
                "send " + lower + " 1", "send " + lower + " 2", "take " + other + " " + (letter + 1),
                "send " + other + " 3", "send " + other + " 4", "take " + lower + " " + (letter + 3));
            letter += 4;
        }
        return run;
    }

    /** END 0 sent 300 LETTERS, of which none was taken. */
    private static List<int[]> full() {
        return repeated(started(), 300, "send 0 9");
    }

    /** END 1 took the first and the last of a chain of six, then each END turned once more. */
    private static List<int[]> turned() {
        return behind(sixSent(), "take 1 5", "send 1 20", "take 0 6", "send 0 30", "take 1 7");
    }

    // ---- 1: a number is none such or outside what is told ----

    private static void numbersThatAreTold() {
        about("Q (3 .. 10007) and G (2 .. Q - 1)");
        edges(run(), "prime # 2", 3, 10007);
        edges(run(), "prime 101 #", 2, 100);
        edges(run(), "prime 3 #", 2, 2);
        edges(run(), "prime 10007 #", 2, 10006);
        refused(run(), "prime 2 1", 1);
        refused(run(), "prime 0 0", 1);
        about("MOST (0 .. 12) and LIFE (0 .. 300)");
        edges(started(), "limits # 50", 0, 12);
        edges(started(), "limits 6 #", 0, 300);
        refused(started(), "limits -1 301", 1);
        about("a SECRET (1 .. 10000)");
        edges(filled(), "secret 0 #", 1, 10000);
        about("a byte (0 .. 255)");
        edges(started(), "send 0 #", 0, 255);
        about("mask (1 .. 255)");
        edges(sixSent(), "alter 0 #", 1, 255);
        about("n outside -100 .. 100");
        edges(held(), "forge 3 5 #", -100, 100);
        for (int what = 0; what < 7; what++) {
            refused(held(), "forge 3 " + what + " -101", 1);
            refused(held(), "forge 3 " + what + " 101", 1);
        }
    }

    private static void numbersOfEnds() {
        about("the ENDS 2 p and 2 p + 1: 0 .. 11");
        List<int[]> all = sixMet();
        for (String call : new String[] {"secret # 5", "send # 5", "see #", "hold 0 3 #", "hold 0 4 #", "hold 0 5 #", "hold 0 6 #", "hold 0 7 #"}) {
            edges(all, call, 0, 11);
        }
        refused(all, "take -1 0", 1);
        refused(all, "take 12 0", 1);
        due(all, "take 1 0", 1);
        due(all, "take 10 22", 3);
        for (String question : new String[] {"told # 0", "told # 1", "told # 9", "skipped # 0 0"}) {
            answered(all, question, 0, 11);
        }
        about("no PAIRS, so no ENDS");
        for (String call : new String[] {"secret 0 5", "send 0 5", "take 0 0", "see 0", "hold 0 3 0"}) {
            refused(run(), call, 1);
        }
        nothing(run(), "told 0 0", "skipped 0 0 0");
        about("one PAIR has the ENDS 0 and 1");
        for (String call : new String[] {"secret # 5", "hold 0 6 #"}) {
            edges(started(), call, 0, 1);
        }
        answered(started(), "told # 0", 0, 1);
    }

    private static void numbersOfPairs() {
        about("PAIRS 0 .. 5");
        edges(sixFilled(), "start #", 0, 5);
        answered(sixMet(), "same #", 0, 5);
        answered(sixMet(), "heals #", 0, 5);
        due(sixMet(), "heals 5", 20);
        due(sixMet(), "count 0", 6);
        refused(sixMet(), "pair", 2);
        refused(run(), "start 0", 1);
        nothing(run(), "same 0", "heals 0");
        edges(filled(), "start #", 0, 0);
        answered(sixSent(), "same #", 0, 0);
        answered(sixSent(), "heals #", 0, 0);
    }

    private static void numbersOfLetters() {
        about("LETTERS 0 .. 299");
        List<int[]> all = full();
        due(all, "count 1", 300);
        due(all, "letter 299 3", 299);
        answered(all, "letter # 0", 0, 299);
        answered(all, "known #", 0, 299);
        answered(behind(all, "see 0"), "steps #", 0, 299);
        edges(all, "alter # 1", 0, 299);
        edges(all, "hold 0 1 #", 0, 299);
        edges(all, "hold 0 2 #", 0, 299);
        refused(all, "take 1 300", 1);
        refused(all, "take 1 299", 5);
        about("no LETTERS");
        refused(started(), "take 1 0", 1);
        refused(started(), "alter 0 1", 1);
        refused(started(), "hold 0 1 0", 1);
        refused(started(), "hold 0 2 0", 1);
        nothing(started(), "known 0", "steps 0", "letter 0 0", "heals 0");
        about("LETTERS 0 .. 5 of six");
        List<int[]> seen = behind(sixSent(), "see 0", "limits 12 50");
        edges(seen, "take 1 #", 0, 5);
        edges(seen, "alter # 1", 0, 5);
        answered(seen, "steps #", 0, 5);
        answered(seen, "known #", 0, 5);
    }

    private static void numbersOfTrays() {
        about("TRAYS 0 .. 7");
        List<int[]> things = sixSent();
        for (int tray = 0; tray < 8; tray++) {
            things = behind(things, "hold " + tray + " 1 0");
        }
        edges(things, "hold # 0 0", 0, 7);
        edges(things, "hold # 1 0", 0, 7);
        edges(things, "hold # 3 1", 0, 7);
        edges(things, "act # 0 5", 0, 7);
        for (int what = 0; what < 7; what++) {
            String[] good = {"forge # 0 0", "forge # 1 0", "forge # 2 0", "forge # 3 0", "forge # 4 0", "forge # 5 1", "forge # 6 1"};
            edges(what == 1 || what == 3 ? lettersInTrays() : what == 4 ? run() : things, good[what], 0, 7);
        }
        answered(things, "tray #", 0, 7);
        answered(run(), "tray #", 0, 7);
    }

    private static List<int[]> lettersInTrays() {
        List<int[]> letters = sixSent();
        for (int tray = 0; tray < 8; tray++) {
            letters = behind(letters, "hold " + tray + " 2 5");
        }
        return letters;
    }

    private static void numbersOfWhat() {
        about("what of hold: 0 .. 7");
        edges(held(), "hold 0 # 1", 0, 7);
        about("ACTS 0 .. 3");
        edges(held(), "act 3 # 5", 0, 3);
        about("what of forge: 0 .. 6");
        edges(held(), "forge 4 # 1", 0, 6);
        about("what of told: 0 .. 9");
        answered(behind(sixSent(), "take 1 3"), "told 1 #", 0, 9);
        about("what of skipped: 0 .. 3; i from 0 on, below how many it keeps");
        List<int[]> kept = behind(sixSent(), "take 1 3");
        answered(kept, "skipped 1 0 #", 0, 3);
        for (int what = 0; what < 4; what++) {
            answered(kept, "skipped 1 # " + what, 0, 2);
        }
        nothing(kept, "skipped 0 0 0");
        about("what of letter: 0 .. 5");
        answered(sixSent(), "letter 5 #", 0, 5);
        about("what of count: 0 .. 4");
        answered(run(), "count #", 0, 4);
        answered(kept, "count #", 0, 4);
        about("THE TRACE's i-th body");
        nothing(held(), "trace 0", "trace -1");
        answered(behind(held(), "act 1 0 5"), "trace #", 0, 0);
        answered(behind(held(), "act 3 2 5"), "trace #", 0, 6);
    }

    // ---- Where several hold, the lowest ----

    private static void severalHold() {
        about("where several hold, the lowest: 1 before all");
        refused(started(), "prime 2 2", 1);
        refused(started(), "prime 101 1", 1);
        refused(sixFilled(), "secret 0 0", 1);
        refused(sixFilled(), "secret 12 5", 1);
        refused(full(), "send 0 256", 1);
        refused(full(), "send 2 9", 1);
        refused(full(), "send 1 -1", 1);
        refused(started(), "send 1 256", 1);
        refused(filled(), "send 0 -1", 1);
        refused(sixSent(), "take 0 6", 1);
        refused(sixSent(), "take 2 0", 1);
        refused(filled(), "hold 8 3 0", 1);
        refused(filled(), "hold -1 7 1", 1);
        refused(held(), "act 0 4 5", 1);
        refused(held(), "act 2 -1 5", 1);
        for (int what = 0; what < 7; what++) {
            refused(held(), "forge 0 " + what + " 101", 1);
            refused(held(), "forge 2 " + what + " -101", 1);
            refused(held(), "forge 8 " + what + " 0", 1);
        }
        refused(held(), "forge 0 7 0", 1);
        refused(held(), "forge 2 -1 0", 1);
        about("where several hold, the lowest: 2 before 3");
        refused(full(), "send 1 9", 2);
        List<int[]> unstarted = repeated(behind(started(), "pair"), 300, "send 0 9");
        refused(unstarted, "send 2 9", 2);
        refused(unstarted, "send 3 9", 2);
        about("where several hold, the lowest: 10 before 12, 11 before 12");
        for (int what : new int[] {1, 3}) {
            for (int n : new int[] {-100, -1, 3, 100}) {
                refused(held(), "forge 0 " + what + " " + n, 10);
                refused(held(), "forge 1 " + what + " " + n, 11);
                refused(held(), "forge 7 " + what + " " + n, 11);
                refused(held(), "forge 2 " + what + " " + n, 12);
            }
        }
        about("take, the first that fits: 4 before 5, 6 and 7");
        severalOfTake();
    }

    private static void severalOfTake() {
        // The SKIPPED ones of a PUBLIC that is LEFT ended; then LETTER 4 is too late, too far, and not GOOD.
        List<int[]> left = behind(turned(), "limits 0 0", "send 0 1", "alter 4 1");
        due(left, "told 1 9", 0);
        refused(left, "take 1 4", 4);
        List<int[]> spent = run("prime 1009 11", "pair", "secret 0 5", "secret 0 9", "secret 0 14", "secret 1 8", "secret 1 21", "secret 1 33",
            "start 0", "send 0 1", "send 0 2", "take 1 1", "send 1 3", "take 0 2", "send 0 4", "take 1 3", "limits 0 0", "send 0 5", "alter 0 1");
        due(spent, "told 1 0", 0);
        refused(spent, "take 1 0", 4);
        // The lower END TAKES from the PUBLIC of 8, which 108 has too, without a TAKING CHAIN: too far, no ROW, not GOOD.
        List<int[]> none = run("pair", "secret 0 5", "secret 0 9", "secret 1 8", "secret 1 108", "start 0", "send 0 1", "take 1 0",
            "send 1 2", "send 1 3", "limits 0 50", "alter 2 1");
        refused(none, "take 0 2", 4);
        refused(none, "take 0 1", 4);
        // Below PAST in the CHAIN that it takes from, and not GOOD.
        refused(behind(sixSent(), "take 1 1", "take 1 0", "limits 0 50", "alter 0 1"), "take 1 0", 4);
        about("take, the first that fits: 5 before 6 and 7, 6 before 7");
        List<int[]> empty = run("pair", "secret 0 5", "secret 0 9", "secret 1 8", "start 0", "send 0 1", "send 0 2", "limits 0 50");
        refused(empty, "take 1 1", 5);
        refused(behind(empty, "alter 1 1"), "take 1 1", 5);
        refused(behind(empty, "secret 1 3", "alter 1 1"), "take 1 1", 5);
        refused(empty, "take 1 0", 6);
        refused(behind(empty, "alter 0 1"), "take 1 0", 6);
        refused(behind(empty, "secret 1 3", "alter 0 1"), "take 1 0", 7);
        due(behind(empty, "secret 1 3"), "take 1 0", 1);
        refused(behind(sixSent(), "take 1 0", "limits 0 50", "alter 2 1"), "take 1 2", 5);
        refused(behind(sixSent(), "take 1 0", "limits 0 50", "alter 1 1"), "take 1 1", 7);
    }

    /** Every STATUS of every call that may be refused, once, and that what is done makes it 0 again. */
    private static void eachStatus() {
        about("STATUS of the latest call that is no question");
        String[] done = {"limits 1 1", "pair", "secret 0 1", "send 0 1", "alter 0 1", "take 1 1", "see 1", "hold 0 0 0", "act 3 0 0", "forge 0 5 1"};
        for (String call : done) {
            due(behind(held(), "forge 0 5 0", call), "status", 0);
        }
        due(behind(filled(), "start 1", "start 0"), "status", 0);
        due(run("start 0", "prime 5 2"), "status", 0);
        String[] questions = {"known 0", "steps 0", "heals 0", "same 0", "told 0 0", "skipped 1 0 0", "letter 0 0", "count 0", "tray 0", "trace 0", "status",
            "known -1", "steps -1", "heals -1", "same -1", "told -1 0", "skipped -1 0 0", "letter -1 0", "count -1", "tray -1", "trace -1"};
        for (String question : questions) {
            due(behind(held(), "forge 0 5 0", question), "status", 15);
            due(behind(held(), "forge 0 5 1", question), "status", 0);
        }
        about("prime: 1, 3; limits: 1; pair: 2; secret: 1, 2; start: 1, 3");
        refused(run(), "prime 101 101", 1);
        refused(run("pair"), "prime 1009 11", 3);
        refused(run("pair"), "prime 101 100", 3);
        refused(run(), "limits 13 0", 1);
        refused(repeated(run(), 6, "pair"), "pair", 2);
        refused(run("pair"), "secret 2 1", 1);
        refused(repeated(run("pair"), 12, "secret 1 1"), "secret 1 1", 2);
        refused(run("pair"), "start 1", 1);
        refused(run("pair"), "start 0", 3);
        about("send: 1, 2, 3; alter: 1; take: 1, 3 to 7; see: 1, 3");
        refused(started(), "send 0 256", 1);
        refused(full(), "send 0 0", 2);
        refused(started(), "send 1 0", 3);
        refused(filled(), "send 0 0", 3);
        refused(sixSent(), "alter 6 1", 1);
        refused(sixSent(), "take 1 6", 1);
        refused(sixSent(), "take 0 5", 3);
        refused(filled(), "see 0", 3);
        refused(filled(), "see 2", 1);
        about("hold: 1, 3; act: 1, 3; forge: 1, 10 to 15");
        for (int what = 3; what < 8; what++) {
            refused(filled(), "hold 0 " + what + " 0", 3);
            refused(filled(), "hold 0 " + what + " 1", 3);
            refused(filled(), "hold 0 " + what + " 2", 1);
        }
        refused(held(), "act 0 0 0", 3);
        refused(held(), "act 2 0 0", 3);
        refused(held(), "forge 0 0 0", 10);
        refused(held(), "forge 2 0 0", 11);
        refused(held(), "forge 2 1 3", 12);
        refused(held(), "forge 2 2 -1", 13);
        refused(held(), "forge 6 4 0", 14);
        refused(held(), "forge 2 5 0", 15);
    }

    // ---- what is empty and what is full ----

    private static void newObject() {
        about("Q 101, G 2; no PAIRS, no LETTERS; MOST 6, LIFE 50");
        for (int what = 0; what < 5; what++) {
            due(run(), "count " + what, 0);
        }
        List<int[]> one = run("pair", "secret 0 3", "secret 0 7", "secret 1 100", "secret 1 51", "start 0");
        due(one, "told 0 1", 128 % 101);
        due(one, "told 1 1", 1);
        List<int[]> eight = repeated(one, 8, "send 0 1");
        due(eight, "take 1 6", 1);
        refused(eight, "take 1 7", 5);
        List<int[]> kept = repeated(behind(one, "send 0 1", "send 0 2", "take 1 1"), 50, "send 0 1");
        due(kept, "told 1 9", 1);
        due(kept, "take 1 0", 1);
        due(behind(kept, "send 0 1"), "told 1 9", 0);
        nothing(run(), "trace 0");
        for (int tray = 0; tray < 8; tray++) {
            due(run(), "tray " + tray, 0);
        }
    }

    private static void calls512() {
        about("at most 512 calls after it has been made");
        List<int[]> run = sixFilled();
        for (int pair = 0; pair < 6; pair++) {
            run = behind(run, "start " + pair, "secret " + 2 * pair + " 7", "secret " + 2 * pair + " 8", "secret " + (2 * pair + 1) + " 9");
        }
        run = behind(run, "limits 12 300");
        for (int i = 0; i < 50; i++) {
            run = behind(run, "send 0 " + i, "send 2 " + i, "send 4 " + i, "send 6 " + i, "send 8 " + i, "send 10 " + i);
        }
        run = behind(run, "take 1 72", "take 3 73", "take 5 74", "take 7 75", "take 9 76", "take 11 77");
        due(run, "count 1", 300);
        due(run, "told 11 9", 12);
        // SECRETS told; of each start five; a KEY and a CHAIN of each LETTER; three of each turn.
        due(run, "count 2", 144 + 18 + 6 * 5 + 2 * 300 + 6 * 3);
        while (run.size() < Calls.MOST_CALLS - 1) {
            run = behind(run, run.size() % 2 == 0 ? "take 1 0" : "see 10");
        }
        due(run, "take 11 5", 0);
        due(run, "told 10 6", 50);
        due(run, "same 5", 0);
        due(run, "known 299", 1);
    }

    private static void rows() {
        about("a SECRET more in an END's ROW: how many are in it; 2: 12 are in it");
        List<int[]> row = run("pair");
        due(row, "told 0 0", 0);
        due(row, "secret 0 1", 1);
        row = repeated(row, 11, "secret 0 1");
        due(row, "told 0 0", 11);
        due(row, "secret 0 1", 12);
        row = behind(row, "secret 0 1");
        due(row, "told 0 0", 12);
        refused(row, "secret 0 1", 2);
        due(row, "secret 1 1", 1);
        List<int[]> used = behind(row, "secret 1 1", "start 0");
        due(used, "told 0 0", 10);
        due(behind(used, "secret 0 1"), "secret 0 1", 12);
        refused(behind(used, "secret 0 1", "secret 0 1"), "secret 0 1", 2);
        due(used, "told 1 0", 0);
        due(used, "secret 1 1", 1);
        about("SECRETS that are not used yet (in order)");
        List<int[]> many = run("prime 10007 5", "pair", "secret 0 1");
        for (int s = 1; s <= 11; s++) {
            many = behind(many, "secret 0 " + (100 + s), "secret 1 " + (200 + s));
        }
        many = behind(many, "start 0", "limits 0 0");
        int letter = 0;
        for (int turn = 1; turn <= 10; turn++) {
            due(many, "told 0 1", power(10007, 5, 100 + turn));
            due(many, "told 0 0", 11 - turn);
            due(many, "told 1 1", power(10007, 5, 200 + turn));
            due(many, "told 1 0", 11 - turn);
            many = behind(many, "send 0 1", "take 1 " + letter, "send 1 1", "take 0 " + (letter + 1));
            letter += 2;
        }
        many = behind(many, "send 0 1");
        refused(many, "take 1 20", 6);
        due(behind(many, "secret 1 9"), "take 1 20", 1);
        due(behind(many, "secret 1 9", "take 1 20"), "told 1 1", power(10007, 5, 9));
    }

    // ---- ARITHMETIC and THINGS ----

    private static void arithmetic() {
        about("modulo Q, and the greatest numbers that it takes");
        arithmeticOf(10007, 10006, 10000, 9999, 9998, 9997);
        arithmeticOf(10007, 5, 1, 10000, 10000, 1);
        arithmeticOf(3, 2, 1, 2, 3, 10000);
        arithmeticOf(4, 2, 1, 2, 1, 7);
        arithmeticOf(10000, 10, 1, 3, 2, 10000);
        arithmeticOf(9, 8, 2, 3, 5, 7);
    }

    /** A start, a LETTER either way and all that is told of the ENDS, by the document's formulas with BigInteger. */
    private static void arithmeticOf(int q, int g, int a, int a2, int b, int b2) {
        int first = power(q, power(q, g, b), a);
        int root = mix(q, first, power(q, power(q, g, b), a2));
        int chain = mix(q, root, 3);
        int root2 = mix(q, root, power(q, power(q, g, a2), b2));
        int chain2 = mix(q, root2, 3);
        List<int[]> met = run("prime " + q + " " + g, "pair", "secret 0 " + a, "secret 0 " + a2, "secret 1 " + b, "secret 1 " + b2, "start 0");
        due(met, "told 0 1", power(q, g, a2));
        due(met, "told 1 1", power(q, g, b));
        due(met, "told 0 5", power(q, g, b));
        due(met, "told 1 2", first);
        due(met, "told 0 2", root);
        due(met, "told 0 3", chain);
        List<int[]> sent = behind(met, "send 0 255", "send 0 0");
        due(sent, "letter 0 4", (255 + key(q, chain, 0)) % 256);
        due(sent, "letter 0 5", mix(q, key(q, chain, 0), 255));
        due(sent, "letter 1 4", key(q, chain, 1) % 256);
        due(sent, "letter 1 5", mix(q, key(q, chain, 1), 0));
        due(sent, "take 1 1", 0);
        List<int[]> taken = behind(sent, "take 1 1");
        due(taken, "take 1 0", 255);
        due(taken, "skipped 1 0 2", key(q, chain, 0));
        due(taken, "told 1 2", root2);
        due(taken, "told 1 3", chain2);
        due(taken, "told 1 4", next(q, chain, 2));
        due(taken, "same 0", 2);
    }

    private static void thingsCome() {
        about("SECRETS: any from 1 on; each that is told is a THING of its own");
        List<int[]> twice = run("prime 3 2", "pair", "secret 0 10000", "secret 0 10000", "secret 1 10000");
        due(twice, "count 2", 3);
        due(behind(twice, "start 0", "hold 0 6 0"), "forge 0 0 3", 10000);
        due(behind(twice, "start 0", "hold 0 6 1"), "forge 0 0 3", 10000);
        due(behind(twice, "start 0", "see 0"), "see 1", 2);
        about("THINGS come when they are needed, once, at whichever END");
        List<int[]> run = filled();
        int[] more = {5, 2, 2, 3, 0, 2, 3, 2};
        String[] calls = {"start 0", "send 0 1", "send 0 2", "take 1 1", "take 1 0", "send 1 3", "take 0 2", "send 0 4"};
        int count = 8;
        for (int i = 0; i < calls.length; i++) {
            run = behind(run, calls[i]);
            count += more[i];
            due(run, "count 2", count);
        }
        due(behind(run, "secret 0 5"), "count 2", count + 1);
        due(behind(run, "see 0", "see 1", "hold 0 7 1", "alter 0 1", "limits 0 0", "pair"), "count 2", count);
        about("LETTERS behind the first of a CHAIN bring no ROOT and no MEETING");
        due(behind(run, "take 1 3", "send 0 9"), "count 2", count + 3 + 2);
        due(behind(run, "take 1 3", "send 0 9", "take 1 4"), "count 2", count + 3 + 2);
    }

    private static void starts() {
        about("start: 3: the ROW of the lower END has fewer than two, of the other none");
        for (int lower = 0; lower <= 3; lower++) {
            for (int other = 0; other <= 2; other++) {
                List<int[]> rows = repeated(repeated(run("pair"), lower, "secret 0 5"), other, "secret 1 6");
                if (lower >= 2 && other >= 1) {
                    due(rows, "start 0", 1);
                    due(behind(rows, "start 0"), "told 0 0", lower - 2);
                    due(behind(rows, "start 0"), "told 1 0", other - 1);
                } else {
                    refused(rows, "start 0", 3);
                }
            }
        }
        about("start: 3: it is STARTED");
        refused(started(), "start 0", 3);
        refused(behind(started(), "secret 0 7", "secret 1 7"), "start 0", 3);
        about("each may be missing; or none; these three are 0 at first");
        nothing(started(), "told 0 4", "told 1 3", "told 1 4", "told 1 5");
        for (int what = 6; what <= 9; what++) {
            due(started(), "told 0 " + what, 0);
            due(started(), "told 1 " + what, 0);
        }
        about("told 1 to 9 also: its PAIR is not STARTED");
        for (int what = 1; what <= 9; what++) {
            nothing(behind(started(), "pair", "secret 2 4", "secret 2 4", "secret 3 4"), "told 2 " + what, "told 3 " + what);
        }
        due(behind(started(), "pair", "secret 2 4"), "told 2 0", 1);
        nothing(behind(started(), "pair"), "same 1");
    }

    // ---- LETTERS, and how they open ----

    private static void letters() {
        about("its header: the PUBLIC of the END's own SECRET, BEFORE, its number n (SENT)");
        List<int[]> run = behind(turned(), "send 1 1", "send 1 2", "take 0 9", "send 0 3", "send 0 4");
        int[][] headers = {{0, 9, 0, 0}, {5, 9, 0, 5}, {6, 21, 0, 0}, {7, 14, 6, 0}, {8, 33, 1, 0}, {9, 33, 1, 1}, {10, 17, 1, 0}, {11, 17, 1, 1}};
        for (int[] h : headers) {
            due(run, "letter " + h[0] + " 0", h[0] < 6 || h[0] == 7 || h[0] > 9 ? 0 : 1);
            due(run, "letter " + h[0] + " 1", power(Q, 11, h[1]));
            due(run, "letter " + h[0] + " 2", h[2]);
            due(run, "letter " + h[0] + " 3", h[3]);
        }
        about("BEFORE is SENT, SENT 0");
        due(run, "told 0 6", 2);
        due(run, "told 0 7", 1);
        due(run, "told 1 6", 2);
        due(run, "told 1 7", 1);
    }

    private static void toOpen() {
        about("its text less the KEY, modulo 256");
        int key = key(Q, LOWER_CHAIN, 0);
        int[] bytes = {0, 1, 255 - key % 256, 256 - key % 256, 254, 255};
        for (int b : bytes) {
            due(behind(started(), "send 0 " + b), "letter 0 4", (b + key) % 256);
            due(behind(started(), "send 0 " + b), "take 1 0", b);
        }
        check((255 - key % 256 + key) % 256 == 255 && key % 256 != 0, "the text should be 255 and, with one more, 0");
        about("its bits that stand in mask are turned");
        for (int mask : new int[] {1, 128, 255, 170}) {
            List<int[]> altered = behind(started(), "send 0 65", "alter 0 " + mask);
            due(altered, "letter 0 4", ((65 + key) % 256) ^ mask);
            due(altered, "letter 0 5", mix(Q, key, 65));
            refused(altered, "take 1 0", 7);
            due(behind(altered, "alter 0 " + mask), "take 1 0", 65);
        }
        about("it is GOOD if MIX(KEY, byte) is its check, whichever byte was sent");
        // Modulo 7 another byte has the same check: that byte is answered.
        List<int[]> small = run("prime 7 3", "pair", "secret 0 1", "secret 0 3", "secret 1 1", "secret 1 1", "start 0", "send 0 100");
        int text = answer(small, "letter 0 4");
        int k = (text - 100 + 256) % 256;
        int good = 0;
        for (int mask = 1; mask < 256; mask++) {
            int b = ((text ^ mask) - k + 256) % 256;
            if (mix(7, k, b) == mix(7, k, 100)) {
                due(behind(small, "alter 0 " + mask), "take 1 0", b);
                good++;
            } else {
                refused(behind(small, "alter 0 " + mask), "take 1 0", 7);
            }
        }
        check(good > 0 && good < 255, "some masks should leave it GOOD, and others not");
    }

    private static void keptOnesOpen() {
        about("1. its KEY OPENS; if GOOD, it is SKIPPED no more (else STATUS 7)");
        List<int[]> kept = behind(sixSent(), "take 1 2");
        due(kept, "take 1 0", 10);
        due(behind(kept, "take 1 0"), "told 1 9", 1);
        due(behind(kept, "take 1 0"), "skipped 1 0 1", 1);
        due(behind(kept, "take 1 0"), "told 1 8", 3);
        refused(behind(kept, "take 1 0"), "take 1 0", 4);
        refused(behind(kept, "alter 0 1"), "take 1 0", 7);
        due(behind(kept, "alter 0 1", "take 1 0", "alter 0 1"), "take 1 0", 10);
        about("1. also of a PUBLIC that it has LEFT, with MOST 0, and with an empty ROW");
        List<int[]> left = behind(turned(), "limits 0 50", "take 1 0", "take 1 1");
        due(left, "told 1 9", 3);
        due(left, "take 1 4", 14);
        due(left, "take 1 2", 12);
        refused(behind(left, "alter 3 64"), "take 1 3", 7);
        refused(left, "take 1 0", 4);
        List<int[]> spent = run("pair", "secret 0 5", "secret 0 9", "secret 1 8", "secret 1 21", "start 0", "send 0 1", "send 0 2", "take 1 1");
        due(spent, "told 1 0", 0);
        due(spent, "take 1 0", 1);
    }

    private static void chainGoesOn() {
        about("2. n below PAST: STATUS 4; else the KEYS of n - PAST further places are SKIPPED");
        List<int[]> ten = repeated(sixSent(), 10, "send 0 16");
        List<int[]> two = behind(ten, "take 1 0", "take 1 1");
        refused(two, "take 1 0", 4);
        refused(two, "take 1 1", 4);
        due(two, "take 1 2", 12);
        due(behind(two, "take 1 2"), "told 1 9", 0);
        due(behind(two, "take 1 3"), "told 1 9", 1);
        about("5: more than MOST KEYS would be SKIPPED by it");
        for (int most : new int[] {0, 1, 6, 11, 12}) {
            List<int[]> limited = behind(two, "limits " + most + " 300");
            done(limited, "take 1 " + (2 + most));
            due(behind(limited, "take 1 " + (2 + most)), "told 1 9", most);
            due(behind(limited, "take 1 " + (2 + most)), "told 1 8", 3 + most);
            refused(limited, "take 1 " + (3 + most), 5);
        }
        about("5: it is told by one LETTER, not by how many are SKIPPED already");
        List<int[]> twice = behind(ten, "take 1 0", "limits 5 50", "take 1 6");
        due(twice, "take 1 12", 16);
        due(behind(twice, "take 1 12"), "told 1 9", 10);
        refused(twice, "take 1 13", 5);
    }

    private static void newPublicComes() {
        about("3. n KEYS of it are SKIPPED, the next one OPENS; PAST is n + 1");
        List<int[]> ten = repeated(sixSent(), 10, "send 0 16");
        for (int n : new int[] {0, 1, 6, 12}) {
            List<int[]> first = behind(ten, "limits 12 300", "take 1 " + n);
            due(first, "told 1 8", n + 1);
            due(first, "told 1 9", n);
            due(first, "told 1 4", next(Q, LOWER_CHAIN, n + 1));
            refused(behind(ten, "limits " + Math.max(0, n - 1) + " 300"), "take 1 " + Math.max(n, 1), 5);
        }
        about("3. if it has a TAKING CHAIN, the KEYS from PAST to the header's BEFORE less 1 are SKIPPED");
        for (int past = 0; past < 6; past++) {
            for (int n = 0; n < 2; n++) {
                List<int[]> next = behind(sixSent(), "limits 12 50", "take 1 " + past, "send 1 1", "take 0 6", "send 0 2", "send 0 3");
                int late = 5 - past;
                int taken = 7 + n;
                due(behind(next, "take 1 " + taken), "told 1 9", past + late + n);
                due(behind(next, "take 1 " + taken), "told 1 8", n + 1);
                due(behind(next, "take 1 " + taken), "told 1 5", power(Q, 11, 14));
                due(behind(next, "limits " + (late + n) + " 50"), "take 1 " + taken, 2 + n);
                if (late + n > 0) {
                    refused(behind(next, "limits " + (late + n - 1) + " 50"), "take 1 " + taken, 5);
                    due(behind(next, "take 1 " + taken), "skipped 1 " + (past + late + n - 1) + " 1", n > 0 ? n - 1 : 5);
                    due(behind(next, "take 1 " + taken), "skipped 1 " + (past + late + n - 1) + " 0", power(Q, 11, n > 0 ? 14 : 9));
                    due(behind(next, "take 1 " + taken), "skipped 1 " + (past + late + n - 1) + " 3", 9);
                }
            }
        }
        about("6: a new one came, and its ROW is empty");
        List<int[]> none = run("pair", "secret 0 5", "secret 0 9", "secret 1 8", "start 0", "send 0 1", "send 0 2");
        due(none, "told 1 0", 0);
        refused(none, "take 1 0", 6);
        List<int[]> one = behind(none, "secret 1 21");
        due(one, "take 1 0", 1);
        due(behind(one, "take 1 0"), "told 1 0", 0);
        // In the CHAIN that it takes from an empty ROW is no matter.
        due(behind(one, "take 1 0"), "take 1 1", 2);
        about("3: it is not from its PARTNER");
        List<int[]> two = behind(sixSent(), "pair", "secret 2 1", "secret 2 2", "secret 3 3", "secret 3 4", "start 1", "send 2 9");
        for (int end : new int[] {0, 2, 3}) {
            refused(two, "take " + end + " 0", 3);
        }
        for (int end : new int[] {0, 1, 2}) {
            refused(two, "take " + end + " 6", 3);
        }
        due(two, "take 3 6", 9);
        refused(behind(sixSent(), "pair", "pair"), "take 5 0", 3);
    }

    private static void publicsAreNumbers() {
        about("2. the header's PUBLIC is, as a number, the one it TAKES from");
        // 109 is 9 modulo 100, the order of 2 modulo 101: the lower END's next SECRET has the same PUBLIC.
        List<int[]> same = run("pair", "secret 0 5", "secret 0 9", "secret 0 109", "secret 1 8", "secret 1 21", "secret 1 33",
            "start 0", "send 0 1", "take 1 0", "send 1 2", "take 0 1");
        due(same, "told 0 1", answer(same, "told 1 5"));
        refused(behind(same, "send 0 3"), "take 1 2", 4);
        refused(behind(same, "limits 1 50", "send 0 3", "send 0 3", "send 0 3", "send 0 3"), "take 1 5", 5);
        about("3. if it has LEFT that PUBLIC (as a number)");
        List<int[]> again = run("pair", "secret 0 5", "secret 0 9", "secret 0 14", "secret 0 109", "secret 1 8", "secret 1 21", "secret 1 33", "secret 1 34",
            "start 0", "send 0 1", "take 1 0", "send 1 2", "take 0 1", "send 0 3", "take 1 2", "send 1 4", "take 0 3", "send 0 5");
        refused(again, "take 1 4", 4);
        // It has LEFT the PUBLICS of 9 and of 14, and TAKES from that of 15: all that are LEFT count.
        for (int third : new int[] {109, 114}) {
            List<int[]> longer = run("pair", "secret 0 5", "secret 0 9", "secret 0 14", "secret 0 15", "secret 0 " + third, "secret 1 8", "secret 1 21",
                "secret 1 33", "secret 1 34", "secret 1 35", "start 0", "send 0 1", "take 1 0", "send 1 2", "take 0 1", "send 0 3", "take 1 2",
                "send 1 4", "take 0 3", "send 0 5", "take 1 4", "send 1 6", "take 0 5", "send 0 7");
            due(longer, "letter 6 1", power(101, 2, third));
            refused(longer, "take 1 6", 4);
        }
        // The lower END has LEFT the PUBLIC of 8, from which it took without a CHAIN: 108 is 8 modulo 100.
        List<int[]> back = run("pair", "secret 0 5", "secret 0 9", "secret 0 14", "secret 0 15", "secret 1 8", "secret 1 21", "secret 1 108",
            "start 0", "send 0 1", "take 1 0", "send 1 2", "take 0 1", "send 0 3", "take 1 2", "send 1 4");
        due(back, "letter 3 1", power(101, 2, 8));
        refused(back, "take 0 3", 4);
        about("3. or TAKES from it (without a TAKING CHAIN)");
        List<int[]> first = run("pair", "secret 0 5", "secret 0 9", "secret 0 14", "secret 1 8", "secret 1 108",
            "start 0", "send 0 1", "take 1 0", "send 1 2");
        due(first, "letter 1 1", answer(first, "told 0 5"));
        refused(first, "take 0 1", 4);
        about("a PUBLIC that another END has LEFT is new here");
        List<int[]> both = run("pair", "secret 0 5", "secret 0 9", "secret 0 14", "secret 0 15", "secret 1 8", "secret 1 21", "secret 1 109",
            "start 0", "send 0 1", "take 1 0", "send 1 2", "take 0 1", "send 0 3", "take 1 2", "send 1 4");
        due(both, "letter 3 1", power(101, 2, 9));
        due(both, "take 0 3", 4);
    }

    /** END 0's second SECRET has the PUBLIC of its first one, so END 1 opens what it sends by the CHAIN that it knows. */
    private static List<int[]> opensByChance(int place, int b) {
        List<int[]> run = run("pair", "secret 0 5", "secret 0 9", "secret 0 109", "secret 1 8", "secret 1 21", "secret 1 33",
            "see 1", "start 0", "see 1", "send 0 1", "take 1 0", "send 1 2", "take 0 1");
        return behind(repeated(run, place, "send 0 7"), "send 0 " + b);
    }

    private static void opensByAnothersChain() {
        int first = power(101, 2, 5 * 8);
        int root = mix(101, first, power(101, 2, 9 * 8));
        int taking = mix(101, root, 3);
        int theirs = mix(101, mix(101, mix(101, root, power(101, 2, 9 * 21)), power(101, 2, 109 * 21)), 3);
        for (int place = 1; place <= 3; place++) {
            int opening = key(101, taking, place);
            int made = key(101, theirs, place);
            int chance = 0;
            for (int b = 0; b < 256; b++) {
                int opened = Math.floorMod(b + made - opening, 256);
                List<int[]> sent = opensByChance(place, b);
                int letter = 2 + place;
                if (mix(101, opening, opened) != mix(101, made, b)) {
                    about("7: what OPENS is not GOOD");
                    if (b % 50 == 0) {
                        refused(sent, "take 1 " + letter, 7);
                    }
                    continue;
                }
                chance++;
                about("the KEY comes when it is SKIPPED, or OPENS a LETTER that is taken; the next CHAIN right behind that");
                due(sent, "take 1 " + letter, opened);
                List<int[]> taken = behind(sent, "take 1 " + letter);
                check(answer(taken, "count 2") == answer(sent, "count 2") + 2 * place, "a KEY and a CHAIN for each place should come");
                due(taken, "told 1 8", place + 1);
                due(taken, "told 1 9", place - 1);
                due(taken, "told 1 4", next(101, taking, place + 1));
                about("by what came of what, not by VALUES that happen to be the same");
                due(taken, "known 0", 1);
                due(taken, "known " + letter, 0);
                due(taken, "steps " + letter, -1);
                due(taken, "heals 0", 1);
                check(answer(taken, "count 3") == answer(sent, "count 3") + 2 * place, "they should be KNOWN");
            }
            check(chance > 0, "no byte opens by chance");
        }
    }

    private static void nothingChanges() {
        about("by these nothing changes (also no THING comes)");
        List<int[]> met = behind(turned(), "send 1 50", "take 0 8", "send 0 51", "send 0 52");
        refused(behind(met, "take 1 2"), "take 1 2", 4);
        refused(behind(met, "limits 0 50"), "take 1 10", 5);
        refused(behind(met, "alter 9 1"), "take 1 9", 7);
        refused(behind(met, "alter 10 1"), "take 1 10", 7);
        refused(behind(met, "alter 2 1"), "take 1 2", 7);
        refused(behind(met, "take 1 9", "alter 10 2"), "take 1 10", 7);
        refused(behind(met, "take 1 9", "send 1 1"), "take 0 11", 6);
        due(behind(met, "alter 10 1", "take 1 10", "alter 10 1"), "take 1 10", 52);
        List<int[]> empty = run("pair", "secret 0 5", "secret 0 9", "secret 1 8", "start 0", "send 0 1", "send 0 2");
        refused(empty, "take 1 1", 6);
    }

    // ---- SKIPPED ones ----

    private static void twelveAreKept() {
        about("each END keeps 12: when one more comes the one kept first goes");
        List<int[]> many = repeated(behind(started(), "limits 12 300"), 30, "send 0 5");
        List<int[]> twelve = behind(many, "take 1 12");
        due(twelve, "told 1 9", 12);
        nothing(twelve, "skipped 1 12 1");
        due(twelve, "skipped 1 0 1", 0);
        due(behind(twelve, "take 1 13"), "told 1 9", 12);
        due(behind(twelve, "take 1 13"), "skipped 1 0 1", 0);
        List<int[]> thirteen = behind(twelve, "take 1 14");
        due(thirteen, "told 1 9", 12);
        due(thirteen, "skipped 1 0 1", 1);
        due(thirteen, "skipped 1 11 1", 13);
        refused(thirteen, "take 1 0", 4);
        due(thirteen, "take 1 1", 5);
        List<int[]> all = behind(twelve, "take 1 25");
        for (int i = 0; i < 12; i++) {
            due(all, "skipped 1 " + i + " 1", 13 + i);
        }
        about("what was taken makes room");
        due(behind(twelve, "take 1 5", "take 1 14"), "skipped 1 0 1", 0);
        due(behind(twelve, "take 1 5", "take 1 14"), "skipped 1 11 1", 13);
        due(behind(twelve, "take 1 5", "take 1 14"), "told 1 9", 12);
        about("each END: the other one's are no matter");
        due(behind(twelve, "send 1 1", "send 1 2", "take 0 31"), "told 0 9", 1);
        due(behind(twelve, "send 1 1", "send 1 2", "take 0 31"), "told 1 9", 12);
        about("the KEYS of those that go are not shown");
        List<int[]> seen = behind(thirteen, "see 1");
        due(thirteen, "see 1", 4 + 12);
        due(seen, "known 0", 0);
        due(seen, "known 1", 1);
    }

    private static void theyEnd() {
        about("as soon as THE TICK is more than LIFE above that of then");
        for (int life : new int[] {0, 1, 2, 50, 299}) {
            List<int[]> kept = behind(sixSent(), "limits 6 " + life, "take 1 1");
            due(kept, "skipped 1 0 3", 6);
            if (6 + life > 299) {
                List<int[]> last = repeated(kept, 294, "send 0 1");
                due(last, "count 1", 300);
                due(last, "take 1 0", 10);
                continue;
            }
            List<int[]> at = repeated(kept, life, "send 0 1");
            due(at, "told 1 9", 1);
            due(at, "take 1 0", 10);
            due(behind(at, "send 0 1"), "told 1 9", 0);
            nothing(behind(at, "send 0 1"), "skipped 1 0 0");
            refused(behind(at, "send 0 1"), "take 1 0", 4);
        }
        about("of END 0, too, and those of later TICKS stay");
        List<int[]> both = behind(sixSent(), "limits 6 3", "take 1 1", "send 1 20", "send 1 21", "take 0 7", "take 1 3");
        due(both, "told 0 9", 1);
        due(both, "skipped 0 0 3", 8);
        due(both, "told 1 9", 2);
        due(both, "skipped 1 1 3", 8);
        List<int[]> nine = behind(both, "send 0 1");
        due(nine, "told 1 9", 2);
        List<int[]> ten = behind(nine, "send 1 1");
        due(ten, "told 1 9", 1);
        due(ten, "skipped 1 0 1", 2);
        due(ten, "told 0 9", 1);
        due(behind(ten, "send 1 1"), "told 0 9", 1);
        due(behind(ten, "send 1 1"), "told 1 9", 1);
        due(behind(ten, "send 1 1", "send 0 1"), "told 0 9", 0);
        due(behind(ten, "send 1 1", "send 0 1"), "told 1 9", 0);
        about("also when LIFE is told anew; for good");
        List<int[]> aged = behind(sixSent(), "take 1 1", "send 0 1", "send 0 2", "send 0 3");
        due(behind(aged, "limits 6 3"), "told 1 9", 1);
        due(behind(aged, "limits 6 2"), "told 1 9", 0);
        due(behind(aged, "limits 6 2", "limits 6 300"), "told 1 9", 0);
        refused(behind(aged, "limits 6 2", "limits 6 300"), "take 1 0", 4);
        due(behind(aged, "limits 6 301", "limits -1 0", "limits 13 0"), "take 1 0", 10);
        about("only LETTERS that are sent move THE TICK");
        List<int[]> young = behind(sixSent(), "limits 6 0", "take 1 1");
        due(behind(young, "take 1 2", "see 1", "secret 1 5", "pair", "alter 3 1", "send 0 256", "send 2 1"), "told 1 9", 1);
        due(behind(young, "limits 6 0"), "told 1 9", 1);
    }

    // ---- SEEN, KNOWS, STEPS ----

    private static void seen() {
        about("its own SECRET, its ROOT, its CHAINS, the KEYS of its SKIPPED ones");
        due(started(), "see 1", 2);
        due(started(), "see 0", 3);
        due(behind(sixSent(), "take 1 0"), "see 1", 4);
        due(behind(sixSent(), "take 1 1"), "see 1", 5);
        due(behind(sixSent(), "take 1 1", "take 1 0"), "see 1", 4);
        due(behind(sixSent(), "limits 6 0", "take 1 1", "send 0 1"), "see 1", 4);
        about("how many THINGS that had not been shown (KNOWN or not)");
        due(behind(started(), "see 0"), "see 0", 0);
        due(behind(started(), "see 1"), "see 0", 3);
        due(behind(started(), "see 0"), "see 1", 2);
        due(behind(started(), "see 0", "send 0 1"), "see 0", 1);
        due(behind(started(), "see 0", "send 0 1", "send 0 2"), "see 0", 1);
        // END 1's TAKING CHAIN is the one that END 0 showed, when it came as far: the same THING.
        due(behind(started(), "send 0 1", "see 0", "take 1 0"), "see 1", 3);
        due(behind(started(), "send 0 1", "take 1 0"), "see 1", 4);
        about("SECRETS in ROWS are not shown");
        due(behind(filled(), "start 0", "see 0", "see 1"), "count 3", 3 + 2 + 2);
        about("THINGS KNOWN to OTHER are counted once, however often they are SEEN");
        due(behind(started(), "see 0", "see 0"), "count 3", 4);
        due(behind(started(), "see 0", "see 0", "see 0"), "count 3", 4);
        due(started(), "count 3", 0);
    }

    private static void knows() {
        about("a MEETING of which it KNOWS one SECRET");
        // The SECRET, ROOT and CHAIN shown; the MEETING of 9 and 8, not that of 5 and 8.
        due(behind(started(), "see 0"), "count 3", 4);
        about("a first ROOT whose MEETING it KNOWS; a ROOT whose ROOT and MEETING it KNOWS");
        // 8 and the first ROOT shown; both MEETINGS of 8; the lower ROOT and its CHAIN.
        due(behind(started(), "see 1"), "count 3", 6);
        about("a ROOT of which it KNOWS the ROOT only is not KNOWN");
        List<int[]> healed = behind(started(), "send 0 1", "see 0", "take 1 0", "send 1 2", "take 0 1", "send 0 3");
        due(healed, "known 1", 1);
        due(healed, "known 2", 0);
        about("what comes of a ROOT is KNOWN by it, not what it comes of");
        List<int[]> late = behind(started(), "send 0 1", "take 1 0", "send 1 2", "take 0 1", "send 0 3", "see 0");
        due(late, "known 0", 0);
        due(late, "known 1", 0);
        due(late, "known 2", 1);
        about("a CHAIN whose ROOT or CHAIN it KNOWS: those behind it, not those before");
        List<int[]> middle = behind(started(), "send 0 1", "send 0 2", "take 1 1", "take 1 0", "see 1", "send 0 3");
        due(middle, "known 0", 0);
        due(middle, "known 1", 0);
        due(middle, "known 2", 1);
        about("a KEY of a SKIPPED one that is KNOWN tells of no other");
        List<int[]> skipped = behind(sixSent(), "take 1 5", "see 1");
        for (int letter = 0; letter < 5; letter++) {
            due(skipped, "known " + letter, 1);
        }
        due(skipped, "known 5", 0);
        about("what is KNOWN is counted, also the SECRET that was told first of all");
        List<int[]> turnedRound = run("pair", "secret 1 8", "secret 0 5", "secret 0 9", "start 0");
        due(behind(turnedRound, "see 1"), "count 3", 6);
        due(behind(turnedRound, "see 0"), "count 3", 4);
        about("what was shown, at any time");
        due(behind(skipped, "take 1 0", "limits 6 0", "send 0 1"), "known 0", 1);
        due(behind(skipped, "take 1 0", "limits 6 0", "send 0 1"), "known 4", 1);
    }

    private static void steps() {
        about("STEPS: 0 of what was shown; else one more than those of what it comes of");
        List<int[]> root = behind(sixSent(), "take 1 5", "see 0");
        // The CHAIN that END 0 holds now is shown, as its ROOT is: LETTERS sent go by the ROOT, later ones by the CHAIN.
        int[] byRoot = {2, 3, 4, 5, 6, 7};
        for (int letter = 0; letter < 6; letter++) {
            due(root, "steps " + letter, byRoot[letter]);
        }
        due(behind(root, "send 0 1"), "steps 6", 1);
        due(behind(root, "send 0 1", "send 0 2"), "steps 7", 2);
        about("the least that can be");
        due(behind(root, "see 1"), "steps 4", 0);
        due(behind(root, "see 1"), "steps 5", 7);
        due(behind(root, "send 0 1", "send 0 2", "see 0"), "steps 7", 2);
        due(behind(root, "send 0 1", "see 0", "send 0 2"), "steps 7", 1);
        about("of a ROOT and MEETING the greater");
        // END 1 holds 8 and the first ROOT: the MEETING is 1, the ROOT 2, the CHAIN 3, the first KEY 4.
        due(behind(sixSent(), "see 1"), "steps 0", 4);
        due(behind(sixSent(), "see 1"), "steps 5", 9);
        due(behind(started(), "see 1", "send 0 1"), "steps 0", 4);
        due(behind(started(), "see 1", "see 0", "send 0 1"), "steps 0", 1);
        due(behind(started(), "send 0 1", "see 1", "see 0"), "steps 0", 2);
        about("-1: it is not KNOWN");
        due(sixSent(), "steps 0", -1);
    }

    private static void heals() {
        about("the first LETTER of a PAIR such that OTHER KNOWS neither its KEY nor that of one of this PAIR behind it");
        due(started(), "heals 0", -1);
        due(behind(started(), "send 0 1"), "heals 0", 0);
        due(behind(started(), "see 0", "send 0 1"), "heals 0", -1);
        // LETTERS 0 to 4 are KNOWN one by one, 5 is not.
        List<int[]> last = behind(sixSent(), "take 1 5", "see 1");
        due(last, "heals 0", 5);
        due(behind(last, "send 0 1"), "heals 0", -1);
        List<int[]> healed = behind(started(), "send 0 1", "see 0", "take 1 0", "send 1 2", "take 0 1", "send 0 3", "send 0 4");
        due(healed, "heals 0", 2);
        about("of one of this PAIR: those of another PAIR do not count");
        List<int[]> two = behind(healed, "pair", "secret 2 1", "secret 2 2", "secret 3 3", "start 1");
        due(two, "heals 1", -1);
        due(behind(two, "see 2", "send 2 1"), "heals 0", 2);
        due(behind(two, "see 2", "send 2 1"), "heals 1", -1);
        due(behind(two, "send 2 1"), "heals 1", 4);
    }

    private static void same() {
        about("missing both counts as that: 1 + 2 + 4");
        due(started(), "same 0", 4);
        due(behind(started(), "send 0 1", "take 1 0"), "same 0", 2);
        due(behind(started(), "send 0 1", "take 1 0", "send 1 1"), "same 0", 2);
        due(behind(started(), "send 0 1", "send 0 1", "take 1 0"), "same 0", 0);
        due(behind(started(), "send 0 1", "take 1 0", "send 1 1", "take 0 1"), "same 0", 4);
        about("one THING: CHAINS and ROOTS with the same VALUE are not the same");
        int alike = 0;
        for (int a = 1; a <= 2; a++) {
            for (int b = 1; b <= 2; b++) {
                List<int[]> roots = run("prime 3 2", "pair", "secret 0 " + a, "secret 0 " + b, "secret 1 1", "start 0");
                alike += answer(roots, "told 0 2") == answer(roots, "told 1 2") ? 1 : 0;
                due(roots, "same 0", 4);
            }
        }
        check(alike > 0, "the ROOTS should have the same VALUE once");
        // Modulo 3 every CHAIN behind a first one is 2: MIX(CHAIN, 2) is 33 CHAIN + 41.
        List<int[]> chains = run("prime 3 2", "pair", "secret 0 1", "secret 0 1", "secret 0 1", "secret 1 2", "secret 1 1", "start 0",
            "send 0 1", "send 0 2", "take 1 0");
        due(chains, "told 0 3", 2);
        due(chains, "told 1 4", 2);
        due(chains, "same 0", 0);
        List<int[]> back = behind(chains, "send 1 1", "send 1 2", "take 0 2");
        due(back, "told 1 3", 2);
        due(back, "told 0 4", 2);
        due(back, "same 0", 0);
        due(behind(back, "take 0 3"), "same 0", 4);
    }

    // ---- ACTS, TRAYS and the host ----

    private static void acts() {
        about("a number x (32 bits, wrapping)");
        int v = OTHER_ROOT;
        for (int x : new int[] {MAX, MIN, MAX - v, MAX - v + 1, MIN + 1, -1, 0}) {
            due(held(), "act 3 0 " + x, (x + v) * 2);
            due(held(), "act 3 1 " + x, (x + v) * 2 * 3);
            due(held(), "act 3 2 " + x, (x + 1 + v) * 2 * 3 - (((x + 1) ^ v) - 1));
            due(held(), "act 3 3 " + x, (x ^ v) - 1);
            due(held(), "act 6 1 " + x, (x + 21) * 3 + 5);
            due(held(), "act 6 2 " + x, (x + 21) * 3 + 5 - (x ^ 21));
        }
        about("t of a SKIPPED one THE TICK of then");
        int k = key(Q, LOWER_CHAIN, 0);
        due(held(), "act 7 2 9", (9 + k) * 3 - (9 ^ k) + 6);
        due(behind(held(), "send 0 1", "limits 6 0"), "act 7 2 9", (9 + k) * 3 - (9 ^ k) + 6);
        List<int[]> third = behind(sixSent(), "take 1 4", "take 1 0", "take 1 1", "take 1 2", "send 0 1", "hold 0 7 1");
        int k3 = key(Q, LOWER_CHAIN, 3);
        due(third, "act 0 2 -7", (-7 + k3) * 3 - (-7 ^ k3) + 6);
        about("THE TRACE: the bodies that ran in the latest act()");
        due(held(), "count 4", 0);
        due(behind(held(), "act 3 2 5"), "count 4", 7);
        due(behind(held(), "act 3 2 5", "act 1 3 5"), "count 4", 1);
        due(behind(held(), "act 3 2 5", "act 1 3 5"), "trace 0", 13);
        nothing(behind(held(), "act 3 2 5", "act 1 3 5"), "trace 1");
        due(behind(held(), "act 3 2 5", "hold 3 0 0", "act 3 0 5", "forge 4 0 1", "see 0"), "count 4", 7);
    }

    private static void traysKeep() {
        about("hold: nothing, if it has none");
        for (String call : new String[] {"hold 0 4 1", "hold 0 5 1", "hold 0 5 0", "hold 0 7 0", "hold 0 7 1", "hold 0 0 0", "hold 0 0 99"}) {
            List<int[]> gone = behind(sixSent(), "hold 0 3 0", call);
            due(gone, "status", 0);
            due(gone, "tray 0", 0);
        }
        about("7 the SKIPPED one kept first");
        List<int[]> one = behind(sixSent(), "take 1 1", "hold 0 7 1");
        due(one, "tray 0", 6);
        due(one, "forge 0 0 4", key(Q, LOWER_CHAIN, 0));
        List<int[]> second = behind(sixSent(), "take 1 2", "take 1 0", "hold 0 7 1");
        due(second, "forge 0 0 4", key(Q, LOWER_CHAIN, 1));
        about("kept, whatever becomes of it");
        List<int[]> gone = behind(one, "take 1 0");
        due(gone, "tray 0", 6);
        due(gone, "forge 0 0 4", key(Q, LOWER_CHAIN, 0));
        due(behind(gone, "hold 1 7 1"), "tray 1", 0);
        due(behind(one, "limits 6 0", "send 0 1"), "tray 0", 6);
        List<int[]> chain = behind(sixSent(), "hold 0 4 0", "hold 1 2 5", "send 0 1", "alter 5 255");
        due(chain, "forge 0 0 1", next(Q, LOWER_CHAIN, 6));
        due(chain, "forge 1 1 2", 5);
        due(chain, "tray 1", 1);
        about("hold, refused: what the TRAY has stays");
        List<int[]> unstarted = behind(held(), "pair");
        for (int tray = 1; tray < 8; tray++) {
            refused(unstarted, "hold " + tray + " 1 6", 1);
            refused(unstarted, "hold " + tray + " 2 -1", 1);
            refused(unstarted, "hold " + tray + " 8 1", 1);
            for (int what = 3; what < 8; what++) {
                refused(unstarted, "hold " + tray + " " + what + " 4", 1);
                refused(unstarted, "hold " + tray + " " + what + " 3", 3);
            }
        }
        about("0 nothing, 1 a LETTER, 2 + the KIND of a THING");
        int[] has = {0, 2, 1, 4, 3, 3, 5, 6};
        for (int tray = 0; tray < 8; tray++) {
            due(held(), "tray " + tray, has[tray]);
        }
    }

    private static void hostsEdges() {
        about("n modulo 6 (0 .. 5, also for n below 0) or one under that one (also by others between)");
        int[][] kinds = {{3, 2}, {4, 1}, {6, 3}, {7, 4}, {1, 0}};
        int[][] above = {{0}, {0, 1}, {0, 1, 2}, {0, 3}, {0, 4}};
        for (int[] tray : kinds) {
            int value = answer(held(), "forge " + tray[0] + " 0 0");
            for (int n : new int[] {-100, -99, -98, -97, -96, -95, -7, -6, -5, -4, -3, -2, -1, 0, 1, 2, 3, 4, 5, 6, 7, 95, 96, 97, 98, 99, 100}) {
                boolean fits = false;
                for (int k : above[tray[1]]) {
                    fits |= k == Math.floorMod(n, 6);
                }
                if (fits) {
                    due(held(), "forge " + tray[0] + " 0 " + n, value);
                } else {
                    refused(held(), "forge " + tray[0] + " 0 " + n, 11);
                }
            }
        }
        about("10 if it is nothing, 12 if n is outside 0 .. 2");
        List<int[]> mail = behind(turned(), "send 0 1", "hold 2 2 8");
        int[] header = {power(Q, 11, 14), 6, 1};
        for (int n = 0; n < 3; n++) {
            due(mail, "forge 2 1 " + n, header[n]);
        }
        refused(mail, "forge 2 1 -1", 12);
        refused(mail, "forge 2 1 3", 12);
        about("n of these numbers, from the second one on, are copied to a row of 5 from its place n on");
        due(mail, "forge 2 3 0", 0);
        due(mail, "forge 2 3 1", 6);
        due(mail, "forge 2 3 2", 7);
        refused(mail, "forge 2 3 -1", 12);
        refused(mail, "forge 2 3 3", 12);
        about("a row of n cells is made: 13");
        rowsOfCells();
        about("14 if it is another THING; answers 1 (0: it was nothing)");
        int[] put = {0, -14, -11, 1, 1, 1, -14, -14};
        for (int tray = 0; tray < 8; tray++) {
            for (int n : new int[] {-100, 0, 100}) {
                if (put[tray] < 0) {
                    refused(held(), "forge " + tray + " 4 " + n, -put[tray]);
                } else {
                    due(held(), "forge " + tray + " 4 " + n, put[tray]);
                }
            }
        }
        about("100 is divided by n: 15");
        int[][] divided = {{-100, -1}, {-99, -1}, {-51, -1}, {-50, -2}, {-1, -100}, {1, 100}, {3, 33}, {50, 2}, {51, 1}, {99, 1}, {100, 1}};
        for (int[] d : divided) {
            due(held(), "forge 2 5 " + d[0], d[1]);
        }
        refused(held(), "forge 2 5 0", 15);
        about("n modulo 2 is 0: none is there: 10; 1: one that is caught at once");
        for (int n : new int[] {-100, -2, 0, 2, 100}) {
            refused(held(), "forge 1 6 " + n, 10);
        }
        for (int n : new int[] {-99, -1, 1, 99}) {
            due(held(), "forge 0 6 " + n, 1);
        }
    }

    private static void rowsOfCells() {
        for (int tray : new int[] {0, 1, 2}) {
            due(held(), "forge " + tray + " 2 0", 0);
            due(held(), "forge " + tray + " 2 1", 1);
            due(held(), "forge " + tray + " 2 100", 100);
            refused(held(), "forge " + tray + " 2 -1", 13);
            refused(held(), "forge " + tray + " 2 -100", 13);
        }
    }
}
