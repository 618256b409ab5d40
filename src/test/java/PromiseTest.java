import java.util.List;

/** Promise by promise: ordinary calls, the edges that the document names, and wrong numbers. */
public final class PromiseTest extends Checks {
    private PromiseTest() {
    }

    public static void main(String[] args) {
        newObject();
        prime();
        limits();
        pair();
        secret();
        start();
        send();
        sendFull();
        alter();
        takeInTurn();
        takeSkipped();
        takeNewPublic();
        takeOldPublic();
        takeSamePublic();
        takeRefused();
        skippedOnesKept();
        skippedOnesEnd();
        see();
        seeSkipped();
        knownAndSteps();
        heals();
        same();
        told();
        skipped();
        letter();
        count();
        hold();
        tray();
        act();
        trace();
        forgeKind();
        forgeHeader();
        forgeRows();
        forgeNumbers();
        forgeWrong();
        status();
        finish("all promises hold");
    }

    // ---- 1 to 4 ----

    private static void newObject() {
        about("1 new object");
        List<int[]> none = run();
        for (int what = 0; what < 5; what++) {
            due(none, "count " + what, 0);
        }
        due(none, "status", 0);
        for (int tray = 0; tray < 8; tray++) {
            due(none, "tray " + tray, 0);
        }
        nothing(none, "trace 0", "told 0 0", "told 0 1", "letter 0 0", "known 0", "steps 0", "heals 0", "same 0");
        List<int[]> one = run("pair", "secret 0 3", "secret 0 10", "secret 1 6", "secret 1 7", "start 0");
        due(one, "told 0 1", 1024 % 101);
        due(one, "told 1 1", 64);
        List<int[]> seven = repeated(one, 8, "send 0 1");
        due(seven, "take 1 6", 1);
        refused(seven, "take 1 7", 5);
        List<int[]> kept = repeated(behind(one, "send 0 1", "send 0 2", "take 1 1"), 50, "send 1 1");
        due(kept, "told 1 9", 1);
        due(behind(kept, "send 1 1"), "told 1 9", 0);
    }

    private static void prime() {
        about("2 prime");
        List<int[]> none = run();
        due(none, "prime 3 2", 3);
        due(none, "prime 10007 10006", 10007);
        due(none, "prime 1008 11", 1008);
        due(run("prime 3 2"), "prime 10007 2", 10007);
        for (String bad : new String[] {"2 2", "10008 2", "101 1", "101 101", "3 3", "101 " + MIN, "101 " + MAX}) {
            refused(none, "prime " + bad, 1);
        }
        refused(none, "prime " + MIN + " 2", 1);
        refused(none, "prime " + MAX + " 2", 1);
        refused(run("pair"), "prime 101 2", 3);
        refused(run("pair"), "prime 2 2", 1);
        List<int[]> one = run("prime 23 5", "pair", "secret 0 3", "secret 0 4", "secret 1 6", "start 0");
        due(one, "told 0 1", power(23, 5, 4));
        due(behind(one, "prime 101 2"), "told 1 1", power(23, 5, 6));
    }

    private static void limits() {
        about("3 limits");
        for (String good : new String[] {"0 0", "12 300", "6 50"}) {
            due(run(), "limits " + good, 1);
        }
        for (String bad : new String[] {"-1 0", "13 0", "0 -1", "0 301", MIN + " 0", "0 " + MAX}) {
            refused(sixSent(), "limits " + bad, 1);
        }
        refused(behind(sixSent(), "limits 0 0"), "take 1 1", 5);
        due(behind(sixSent(), "limits 1 0"), "take 1 1", 11);
        refused(behind(sixSent(), "limits 1 0"), "take 1 2", 5);
        // LIFE told anew ends what is too old at once, and for good.
        List<int[]> kept = behind(sixSent(), "take 1 1", "send 0 1", "send 0 2");
        due(behind(kept, "limits 6 2"), "told 1 9", 1);
        due(behind(kept, "limits 6 1"), "told 1 9", 0);
        due(behind(kept, "limits 6 1", "limits 6 300"), "told 1 9", 0);
        refused(behind(kept, "limits 6 1", "limits 6 300"), "take 1 0", 4);
        due(behind(kept, "limits 0 2"), "take 1 0", 10);
    }

    private static void pair() {
        about("4 pair");
        List<int[]> pairs = run();
        for (int p = 0; p < 6; p++) {
            due(pairs, "told " + 2 * p + " 0", -1);
            due(pairs, "pair", p);
            pairs = behind(pairs, "pair");
            due(pairs, "count 0", p + 1);
            due(pairs, "told " + (2 * p + 1) + " 0", 0);
        }
        refused(pairs, "pair", 2);
    }

    // ---- 5 to 8 ----

    private static void secret() {
        about("5 secret");
        List<int[]> row = run("pair");
        for (int i = 1; i <= 12; i++) {
            due(row, "secret 1 7", i);
            row = behind(row, "secret 1 7");
            due(row, "count 2", i);
        }
        refused(row, "secret 1 7", 2);
        refused(row, "secret 1 0", 1);
        due(row, "secret 0 10000", 1);
        due(row, "told 0 0", 0);
        for (String bad : new String[] {"0 0", "0 10001", "0 -1", "0 " + MIN, "-1 5", "2 5", "11 5", "12 5", MAX + " 5"}) {
            refused(run("pair"), "secret " + bad, 1);
        }
        due(run("pair"), "secret 0 1", 1);
        // The ROW is used in the order in which it was told, and can be filled again.
        due(started(), "told 0 0", 2);
        due(started(), "told 1 0", 3);
        due(started(), "secret 0 77", 3);
        due(started(), "told 0 1", power(Q, 11, 9));
        due(behind(row, "secret 0 1", "secret 0 2", "start 0"), "secret 1 7", 12);
    }

    private static void start() {
        about("6 start");
        due(filled(), "start 0", 1);
        due(started(), "count 2", 8 + 5);
        int[] lower = {2, power(Q, 11, 9), LOWER_ROOT, LOWER_CHAIN, -1, power(Q, 11, 8), 0, 0, 0, 0};
        int[] other = {3, power(Q, 11, 8), FIRST, -1, -1, -1, 0, 0, 0, 0};
        for (int what = 0; what < 10; what++) {
            due(started(), "told 0 " + what, lower[what]);
            due(started(), "told 1 " + what, other[what]);
        }
        refused(started(), "start 0", 3);
        refused(run(), "start 0", 1);
        for (String bad : new String[] {"-1", "1", "6", "" + MIN, "" + MAX, "1073741824"}) {
            refused(filled(), "start " + bad, 1);
        }
        refused(run("pair", "secret 0 3", "secret 1 3"), "start 0", 3);
        refused(run("pair", "secret 0 3", "secret 0 3"), "start 0", 3);
        due(run("pair", "secret 0 3", "secret 0 3", "secret 1 3"), "start 0", 1);
        List<int[]> second = run("pair", "pair", "secret 2 3", "secret 2 4", "secret 3 6");
        due(second, "start 1", 1);
        refused(second, "start 0", 3);
        due(behind(second, "start 1"), "told 2 1", 16);
        due(behind(second, "start 1"), "told 0 1", -1);
    }

    private static void send() {
        about("7 send");
        due(started(), "send 0 65", 0);
        List<int[]> two = behind(started(), "send 0 65", "send 0 255");
        due(two, "send 0 0", 2);
        int[] first = {0, power(Q, 11, 9), 0, 0, (65 + key(Q, LOWER_CHAIN, 0)) % 256, mix(Q, key(Q, LOWER_CHAIN, 0), 65)};
        int[] second = {0, power(Q, 11, 9), 0, 1, (255 + key(Q, LOWER_CHAIN, 1)) % 256, mix(Q, key(Q, LOWER_CHAIN, 1), 255)};
        for (int what = 0; what < 6; what++) {
            due(two, "letter 0 " + what, first[what]);
            due(two, "letter 1 " + what, second[what]);
        }
        due(two, "told 0 3", next(Q, LOWER_CHAIN, 2));
        due(two, "told 0 6", 2);
        due(two, "told 0 7", 0);
        due(two, "count 1", 2);
        due(two, "count 2", 13 + 4);
        for (String bad : new String[] {"0 -1", "0 256", "-1 0", "2 0", "12 0", "0 " + MIN, MAX + " 0"}) {
            refused(started(), "send " + bad, 1);
        }
        refused(started(), "send 1 0", 3);
        refused(filled(), "send 0 0", 3);
        refused(filled(), "send 1 0", 3);
    }

    private static void sendFull() {
        List<int[]> full = repeated(started(), 299, "send 0 9");
        due(full, "send 0 9", 299);
        full = behind(full, "send 0 9");
        due(full, "count 1", 300);
        due(full, "letter 299 3", 299);
        refused(full, "send 0 9", 2);
        refused(full, "send 1 9", 2);
        refused(full, "send 0 256", 1);
        refused(full, "send 2 0", 1);
        due(behind(full, "send 0 9"), "letter 300 0", -1);
    }

    private static void alter() {
        about("8 alter");
        List<int[]> one = behind(started(), "send 0 65");
        int text = (65 + key(Q, LOWER_CHAIN, 0)) % 256;
        due(one, "alter 0 1", 1);
        due(one, "alter 0 255", 1);
        due(behind(one, "alter 0 255"), "letter 0 4", text ^ 255);
        due(behind(one, "alter 0 129"), "letter 0 4", text ^ 129);
        due(behind(one, "alter 0 129", "alter 0 129"), "letter 0 4", text);
        due(behind(one, "alter 0 129"), "letter 0 5", mix(Q, key(Q, LOWER_CHAIN, 0), 65));
        refused(behind(one, "alter 0 129"), "take 1 0", 7);
        due(behind(one, "alter 0 129", "alter 0 128", "alter 0 1"), "take 1 0", 65);
        for (String bad : new String[] {"0 0", "0 256", "0 -1", "0 " + MIN, "-1 1", "1 1", "300 1", MAX + " 1"}) {
            refused(one, "alter " + bad, 1);
        }
        // What was taken can be altered, too.
        due(behind(one, "take 1 0"), "alter 0 3", 1);
    }

    // ---- 9 ----

    private static void takeInTurn() {
        about("9 take, in turn");
        List<int[]> six = sixSent();
        due(six, "take 1 0", 10);
        List<int[]> first = behind(six, "take 1 0");
        int[] other = {2, power(Q, 11, 21), OTHER_ROOT, OTHER_CHAIN, next(Q, LOWER_CHAIN, 1), power(Q, 11, 9), 0, 0, 1, 0};
        for (int what = 0; what < 10; what++) {
            due(first, "told 1 " + what, other[what]);
        }
        // Two MEETINGS less one that came before; two ROOTS less one; two CHAINS less one: KEY and next came by send.
        due(first, "count 2", 13 + 12 + 3);
        due(first, "take 1 1", 11);
        due(behind(first, "take 1 1"), "told 1 8", 2);
        due(behind(first, "take 1 1"), "told 1 0", 2);
        due(behind(first, "take 1 1"), "count 2", 13 + 12 + 3);
        refused(first, "take 1 0", 4);
        // A byte and its KEY make every sum from 0 to 255 and beyond.
        for (int b : new int[] {0, 1, 127, 128, 254, 255}) {
            due(behind(started(), "send 0 " + b), "take 1 0", b);
        }
    }

    private static void takeSkipped() {
        about("9 take, skipped");
        List<int[]> late = behind(sixSent(), "take 1 0", "take 1 3");
        due(late, "told 1 9", 2);
        due(late, "told 1 8", 4);
        due(late, "take 1 1", 11);
        due(late, "take 1 2", 12);
        due(behind(late, "take 1 2"), "told 1 9", 1);
        due(behind(late, "take 1 2"), "skipped 1 0 1", 1);
        due(behind(late, "take 1 2", "take 1 1"), "told 1 9", 0);
        refused(behind(late, "take 1 2"), "take 1 2", 4);
        refused(late, "take 1 3", 4);
        // One that does not open stays SKIPPED.
        refused(behind(late, "alter 1 4"), "take 1 1", 7);
        due(behind(late, "alter 1 4", "take 1 1", "alter 1 4"), "take 1 1", 11);
    }

    private static void takeNewPublic() {
        about("9 take, a new PUBLIC");
        // The other END answers twice; the lower one took nothing till then, so its TAKING CHAIN is missing.
        List<int[]> answered = behind(sixSent(), "take 1 2", "send 1 30", "send 1 31");
        due(answered, "take 0 7", 31);
        List<int[]> turned = behind(answered, "take 0 7");
        int root = mix(Q, OTHER_ROOT, power(Q, 11, 21 * 14));
        int[] lower = {1, power(Q, 11, 14), root, mix(Q, root, 3), next(Q, OTHER_CHAIN, 2), power(Q, 11, 21), 0, 6, 2, 1};
        for (int what = 0; what < 10; what++) {
            due(turned, "told 0 " + what, lower[what]);
        }
        due(turned, "skipped 0 0 0", power(Q, 11, 21));
        due(turned, "skipped 0 0 2", key(Q, OTHER_CHAIN, 0));
        // The header of the next LETTER tells how many the CHAIN before had: all of them are SKIPPED then.
        List<int[]> moved = behind(turned, "send 0 40", "send 0 41");
        due(moved, "letter 8 2", 6);
        due(moved, "letter 9 3", 1);
        due(moved, "take 1 9", 41);
        List<int[]> caught = behind(moved, "take 1 9");
        due(caught, "told 1 9", 2 + 3 + 1);
        int[] places = {0, 1, 3, 4, 5, 0};
        for (int i = 0; i < places.length; i++) {
            due(caught, "skipped 1 " + i + " 0", power(Q, 11, i < 5 ? 9 : 14));
            due(caught, "skipped 1 " + i + " 1", places[i]);
            due(caught, "skipped 1 " + i + " 3", i < 2 ? 6 : 10);
        }
        due(caught, "told 1 7", 2);
        due(caught, "told 1 6", 0);
        due(caught, "take 1 4", 14);
        due(caught, "take 1 8", 40);
        due(caught, "same 0", 2);
    }

    private static void takeOldPublic() {
        about("9 take, an old PUBLIC");
        List<int[]> moved = behind(sixSent(), "take 1 2", "send 1 30", "take 0 6", "send 0 40", "take 1 7");
        // Places 3 to 5 were SKIPPED when the new PUBLIC came; 2 was taken.
        due(moved, "take 1 5", 15);
        refused(moved, "take 1 2", 4);
        refused(behind(moved, "take 1 5"), "take 1 5", 4);
        // A PUBLIC that is left is known by its number, though another SECRET has it: 109 is 9 modulo 100.
        List<int[]> again = run("pair", "secret 0 5", "secret 0 9", "secret 0 14", "secret 0 109", "secret 1 8",
            "secret 1 21", "secret 1 33", "secret 1 34", "start 0", "send 0 1", "take 1 0", "send 1 2", "take 0 1", "send 0 3", "take 1 2",
            "send 1 4", "take 0 3", "send 0 5");
        due(again, "letter 4 1", power(101, 2, 9));
        refused(again, "take 1 4", 4);
        // The lower END takes from the other's first PUBLIC, but has no TAKING CHAIN: 108 is 8 modulo 100.
        List<int[]> first = run("pair", "secret 0 5", "secret 0 9", "secret 0 14", "secret 1 8", "secret 1 108",
            "start 0", "send 0 1", "take 1 0", "send 1 2");
        refused(first, "take 0 1", 4);
    }

    private static void takeSamePublic() {
        about("9 take, the same PUBLIC");
        // The lower END's next SECRET has the PUBLIC of the one before it: 109 is 9 modulo 100.
        List<int[]> same = run("pair", "secret 0 5", "secret 0 9", "secret 0 109", "secret 1 8", "secret 1 21",
            "secret 1 33", "start 0", "send 0 1", "send 0 2", "take 1 1", "send 1 2", "take 0 2", "send 0 77");
        // By the SKIPPED KEY of place 0 it opens only if that is GOOD.
        due(same, "skipped 1 0 1", 0);
        due(same, "letter 3 3", 0);
        due(same, "letter 3 1", power(101, 2, 9));
        refused(same, "take 1 3", 7);
        List<int[]> taken = behind(same, "take 1 0");
        refused(taken, "take 1 3", 4);
        List<int[]> third = behind(taken, "send 0 78", "send 0 79");
        refused(third, "take 1 5", 7);
        refused(behind(third, "limits 0 0", "send 0 80"), "take 1 6", 5);
    }

    private static void takeRefused() {
        about("9 take, refused");
        List<int[]> six = sixSent();
        for (String bad : new String[] {"-1 0", "2 0", "12 0", "1 -1", "1 6", "1 300", MIN + " 0", "1 " + MAX}) {
            refused(six, "take " + bad, 1);
        }
        refused(six, "take 0 0", 3);
        refused(behind(six, "pair"), "take 2 0", 3);
        refused(behind(six, "pair"), "take 3 0", 3);
        // 5 comes before 6 and 7, 6 before 7, 4 before 5.
        List<int[]> empty = run("pair", "secret 0 3", "secret 0 4", "secret 0 5", "secret 1 6", "start 0", "send 0 1", "send 0 2",
            "send 0 3", "limits 1 50");
        refused(empty, "take 1 2", 5);
        refused(empty, "take 1 1", 6);
        refused(behind(empty, "alter 1 1"), "take 1 1", 6);
        refused(behind(empty, "alter 1 1", "secret 1 9"), "take 1 1", 7);
        due(behind(empty, "secret 1 9"), "take 1 1", 2);
        List<int[]> taken = behind(empty, "secret 1 9", "take 1 1", "take 1 0", "send 0 4", "send 0 5");
        refused(taken, "take 1 4", 5);
        refused(behind(taken, "alter 4 1"), "take 1 4", 5);
        refused(behind(taken, "limits 0 50"), "take 1 1", 4);
        refused(behind(taken, "alter 3 1"), "take 1 3", 7);
        due(taken, "take 1 3", 4);
        // MOST is for both CHAINS together: here one of the old one and one of the new one.
        List<int[]> both = behind(empty, "secret 1 9", "secret 1 10", "take 1 1", "send 1 7", "take 0 3", "send 0 8",
            "send 0 9");
        refused(both, "take 1 5", 5);
        due(both, "take 1 4", 8);
        due(behind(both, "limits 2 50"), "take 1 5", 9);
        due(behind(both, "take 1 2"), "take 1 5", 9);
        // What was taken out of SKIPPED since is no matter.
        due(behind(both, "take 1 2", "take 1 0"), "take 1 5", 9);
    }

    // ---- SKIPPED ones ----

    private static void skippedOnesKept() {
        about("SKIPPED, 12 are kept");
        List<int[]> many = repeated(behind(started(), "limits 12 300"), 16, "send 0 5");
        List<int[]> full = behind(many, "take 1 12");
        due(full, "told 1 9", 12);
        due(full, "skipped 1 0 1", 0);
        due(full, "skipped 1 11 1", 11);
        refused(behind(many, "limits 11 300"), "take 1 12", 5);
        refused(many, "take 1 13", 5);
        List<int[]> more = behind(full, "take 1 15");
        due(more, "told 1 9", 12);
        due(more, "skipped 1 0 1", 2);
        due(more, "skipped 1 11 1", 14);
        due(more, "skipped 1 12 1", -1);
        refused(more, "take 1 0", 4);
        refused(more, "take 1 1", 4);
        due(more, "take 1 2", 5);
        due(behind(more, "take 1 5"), "told 1 9", 11);
        due(behind(more, "take 1 5"), "skipped 1 3 1", 6);
        due(behind(more, "take 1 5"), "skipped 1 2 1", 4);
    }

    private static void skippedOnesEnd() {
        about("SKIPPED, they end");
        List<int[]> kept = behind(started(), "limits 6 3", "send 0 1", "send 0 2", "take 1 1", "send 0 3", "send 0 4", "send 0 5");
        due(kept, "told 1 9", 1);
        due(kept, "take 1 0", 1);
        due(behind(kept, "send 0 6"), "told 1 9", 0);
        refused(behind(kept, "send 0 6"), "take 1 0", 4);
        due(behind(kept, "send 1 6"), "told 1 9", 0);
        // LETTERS of another PAIR move THE TICK, too; of those kept only the old ones end.
        List<int[]> two = behind(kept, "take 1 4", "pair", "secret 2 1", "secret 2 2", "secret 3 3", "start 1", "send 2 9");
        due(two, "told 1 9", 2);
        due(two, "skipped 1 0 1", 2);
        due(two, "skipped 1 0 3", 5);
        due(behind(two, "send 2 9", "send 2 9"), "told 1 9", 2);
        due(behind(two, "send 2 9", "send 2 9", "send 2 9"), "told 1 9", 0);
        List<int[]> none = behind(started(), "limits 6 0", "send 0 1", "send 0 2", "take 1 1");
        due(none, "told 1 9", 1);
        due(none, "take 1 0", 1);
        due(behind(none, "send 0 3"), "told 1 9", 0);
    }

    // ---- 10 to 14 ----

    private static void see() {
        about("10 see");
        due(started(), "see 0", 3);
        due(started(), "see 1", 2);
        due(behind(started(), "see 0"), "see 0", 0);
        List<int[]> met = behind(sixSent(), "take 1 0");
        due(met, "see 1", 4);
        due(met, "see 0", 3);
        // KNOWN ones that had not been shown are counted: the lower END's CHAIN was KNOWN by its ROOT.
        due(behind(started(), "see 0", "send 0 1"), "see 0", 1);
        for (String bad : new String[] {"-1", "2", "12", "" + MIN, "" + MAX}) {
            refused(started(), "see " + bad, 1);
        }
        refused(filled(), "see 0", 3);
        refused(filled(), "see 1", 3);
    }

    private static void seeSkipped() {
        List<int[]> kept = behind(sixSent(), "take 1 2");
        due(kept, "see 1", 4 + 2);
        due(behind(kept, "see 1", "take 1 4"), "see 1", 2);
        List<int[]> seen = behind(kept, "see 1");
        due(seen, "known 0", 1);
        due(seen, "known 1", 1);
        due(seen, "known 2", 0);
        due(seen, "known 3", 1);
        due(seen, "steps 0", 0);
        due(seen, "steps 3", 1);
        due(seen, "steps 4", 2);
        // A KEY that is not SKIPPED any more is not shown.
        due(behind(kept, "take 1 0", "see 1"), "known 0", 0);
    }

    private static void knownAndSteps() {
        about("11 known, 12 steps");
        List<int[]> six = sixSent();
        due(six, "known 0", 0);
        due(six, "steps 0", -1);
        nothing(six, "known -1", "known 6", "known " + MIN, "known " + MAX, "steps -1", "steps 6", "steps " + MAX);
        // The ROOT is shown, so its first CHAIN is one step away, and the KEY two.
        List<int[]> seen = behind(six, "see 0");
        due(seen, "known 0", 1);
        due(seen, "steps 0", 2);
        due(seen, "steps 1", 3);
        due(seen, "steps 5", 7);
        // The CHAIN that is shown is nearer than the ROOT.
        due(behind(seen, "send 0 1"), "steps 6", 1);
        due(behind(seen, "send 0 1", "send 0 2"), "steps 7", 2);
        // The other END's SECRET and first ROOT: MEETING 1, ROOT 2, CHAIN 3, KEY 4.
        due(behind(six, "see 1"), "steps 0", 4);
        due(behind(six, "see 1"), "steps 2", 6);
        // The SECRET and the first ROOT, two MEETINGS, a ROOT, seven CHAINS, six KEYS.
        due(behind(six, "see 1"), "count 3", 2 + 2 + 1 + 7 + 6);
        // A MEETING needs one SECRET only, a ROOT both: what was sent under a new SECRET behind a turn is healed.
        List<int[]> healing = behind(seen, "take 1 0", "send 1 50", "take 0 6", "send 0 60", "take 1 7", "send 1 70");
        due(healing, "known 6", 1);
        due(healing, "steps 6", 4);
        due(healing, "known 7", 0);
        due(healing, "known 8", 0);
        // Seen again at the other END, though its ROW was empty of SECRETS that OTHER had seen.
        due(behind(healing, "see 1"), "known 8", 1);
        due(behind(healing, "see 1"), "known 7", 0);
        // Equal VALUES are not the same THING: both PAIRS have the same SECRETS.
        List<int[]> twins = run("pair", "pair", "secret 0 3", "secret 0 4", "secret 1 6", "secret 2 3", "secret 2 4",
            "secret 3 6", "start 0", "start 1", "send 0 1", "send 2 1");
        due(behind(twins, "see 0"), "known 0", 1);
        due(behind(twins, "see 0"), "known 1", 0);
        due(behind(twins, "see 0"), "see 2", 3);
    }

    private static void heals() {
        about("13 heals");
        List<int[]> six = sixSent();
        due(started(), "heals 0", -1);
        due(six, "heals 0", 0);
        due(behind(six, "see 0"), "heals 0", -1);
        nothing(six, "heals -1", "heals 1", "heals 6", "heals " + MIN, "heals " + MAX);
        due(behind(six, "pair"), "heals 1", -1);
        List<int[]> healing = behind(six, "see 0", "take 1 0", "send 1 50", "take 0 6", "send 0 60", "take 1 7");
        due(healing, "heals 0", 7);
        due(behind(healing, "send 1 70", "see 1"), "heals 0", -1);
        // The first behind the last that is KNOWN, though some before it are not.
        List<int[]> kept = behind(six, "take 1 5", "take 1 0", "take 1 4", "send 1 7", "send 1 8", "take 0 7", "take 0 6", "send 0 2",
            "take 1 8", "send 1 3", "see 1");
        due(kept, "known 0", 0);
        due(kept, "known 3", 1);
        due(kept, "known 4", 0);
        due(kept, "heals 0", -1);
        // LETTERS of other PAIRS count for nothing.
        List<int[]> two = run("pair", "pair", "secret 0 3", "secret 0 4", "secret 1 6", "secret 1 7", "secret 2 3",
            "secret 2 4", "secret 3 6", "start 0", "start 1", "send 2 1", "send 0 1", "send 0 2", "take 1 2", "see 1");
        due(two, "heals 1", 0);
        due(two, "heals 0", 2);
        due(behind(two, "send 2 1"), "heals 0", 2);
        due(behind(two, "see 2", "send 2 1"), "heals 0", 2);
        due(behind(two, "see 2", "send 2 1"), "heals 1", -1);
    }

    private static void same() {
        about("14 same");
        due(started(), "same 0", 4);
        due(behind(started(), "send 0 1"), "same 0", 4);
        due(behind(started(), "send 0 1", "take 1 0"), "same 0", 2);
        due(behind(started(), "send 0 1", "send 0 2", "take 1 0"), "same 0", 0);
        due(behind(started(), "send 0 1", "send 0 2", "take 1 1"), "same 0", 2);
        due(behind(started(), "send 0 1", "take 1 0", "send 1 1", "take 0 1"), "same 0", 4);
        nothing(started(), "same -1", "same 1", "same 6", "same " + MIN, "same " + MAX);
        due(filled(), "same 0", -1);
        // With a SECRET whose PUBLIC is 1 all MEETINGS are 1; THINGS are the same by what they come of alone.
        List<int[]> ones = run("pair", "secret 0 100", "secret 0 100", "secret 1 100", "start 0");
        due(ones, "told 0 1", 1);
        due(ones, "same 0", 4);
    }

    // ---- 15 to 18 ----

    private static void told() {
        about("15 told");
        due(filled(), "told 0 0", 4);
        for (int what = 1; what < 10; what++) {
            due(filled(), "told 0 " + what, -1);
        }
        nothing(started(), "told 0 -1", "told 0 10", "told -1 0", "told 2 0", "told 12 0", "told " + MIN + " 1", "told 0 " + MAX);
        List<int[]> kept = behind(sixSent(), "take 1 3", "take 1 1", "send 1 4", "send 1 5");
        due(kept, "told 1 9", 2);
        due(kept, "told 1 6", 2);
        due(kept, "told 1 7", 0);
        due(kept, "told 1 8", 4);
        due(kept, "told 1 3", next(Q, OTHER_CHAIN, 2));
        due(kept, "told 0 6", 6);
        due(kept, "told 0 5", power(Q, 11, 8));
        due(behind(kept, "take 0 6", "send 0 1", "take 1 8"), "told 1 7", 2);
        due(behind(kept, "take 0 6", "send 0 1", "take 1 8"), "told 1 6", 0);
    }

    private static void skipped() {
        about("16 skipped");
        List<int[]> kept = behind(sixSent(), "take 1 2");
        for (int i = 0; i < 2; i++) {
            due(kept, "skipped 1 " + i + " 0", power(Q, 11, 9));
            due(kept, "skipped 1 " + i + " 1", i);
            due(kept, "skipped 1 " + i + " 2", key(Q, LOWER_CHAIN, i));
            due(kept, "skipped 1 " + i + " 3", 6);
        }
        nothing(kept, "skipped 1 2 0", "skipped 1 -1 0", "skipped 1 0 4", "skipped 1 0 -1", "skipped 0 0 0",
            "skipped -1 0 0", "skipped 2 0 0", "skipped 1 " + MAX + " 0", "skipped 1 " + MIN + " 0", "skipped 12 0 0");
    }

    private static void letter() {
        about("17 letter");
        List<int[]> met = behind(sixSent(), "take 1 0", "send 1 200");
        int key = key(Q, OTHER_CHAIN, 0);
        int[] sixth = {1, power(Q, 11, 21), 0, 0, (200 + key) % 256, mix(Q, key, 200)};
        for (int what = 0; what < 6; what++) {
            due(met, "letter 6 " + what, sixth[what]);
        }
        nothing(met, "letter 7 0", "letter -1 0", "letter 300 0", "letter 0 6", "letter 0 -1", "letter " + MAX + " 0");
        // The header stays as it was sent.
        due(behind(met, "take 0 6", "send 0 1"), "letter 0 1", power(Q, 11, 9));
        due(behind(met, "take 0 6", "send 0 1"), "letter 7 2", 6);
    }

    private static void count() {
        about("18 count");
        due(filled(), "count 0", 1);
        due(filled(), "count 1", 0);
        due(filled(), "count 2", 8);
        due(filled(), "count 3", 0);
        nothing(filled(), "count -1", "count 5", "count " + MIN, "count " + MAX);
        List<int[]> kept = behind(sixSent(), "take 1 2");
        // A SKIPPED one is no THING; its KEY came when the LETTER was made.
        due(kept, "count 2", 13 + 12 + 3);
        due(kept, "count 3", 0);
        // The SECRET, the ROOT and the CHAIN shown; six CHAINS and KEYS before that; two MEETINGS, a ROOT and its CHAIN.
        due(behind(kept, "see 0"), "count 3", 3 + 12 + 2 + 1 + 1);
        due(behind(kept, "see 0", "send 1 1"), "count 3", 3 + 12 + 2 + 1 + 1 + 2);
        due(behind(kept, "hold 0 7 1", "act 0 2 9"), "count 4", 5);
        due(behind(kept, "hold 0 7 1", "act 0 2 9", "act 0 0 9"), "count 4", 1);
    }

    // ---- 19 to 22 ----

    private static void hold() {
        about("19 hold");
        List<int[]> kept = behind(sixSent(), "take 1 2");
        for (int what = 0; what < 8; what++) {
            due(kept, "hold 7 " + what + " 1", 1);
            refused(kept, "hold 8 " + what + " 1", 1);
            refused(kept, "hold -1 " + what + " 1", 1);
            if (what > 0) {
                refused(kept, "hold 0 " + what + " -1", 1);
                refused(kept, "hold 0 " + what + " 6", 1);
                refused(kept, "hold 0 " + what + " " + MAX, 1);
            }
        }
        refused(kept, "hold 0 8 1", 1);
        refused(kept, "hold 0 -1 1", 1);
        for (int what = 3; what < 8; what++) {
            refused(behind(filled(), "pair"), "hold 0 " + what + " 0", 3);
            refused(behind(filled(), "pair"), "hold 0 " + what + " 3", 3);
            refused(behind(filled(), "pair"), "hold 0 " + what + " 4", 1);
        }
        // What the END has not comes as nothing, and what was there before is gone.
        for (int what : new int[] {4, 5, 7}) {
            due(behind(started(), "hold 0 3 1"), "hold 0 " + what + " 1", 1);
            due(behind(started(), "hold 0 3 1", "hold 0 " + what + " 1"), "tray 0", 0);
        }
        due(behind(held(), "hold 3 0 -5"), "tray 3", 0);
        due(behind(held(), "hold 2 1 0"), "tray 2", 2);
        due(behind(held(), "hold 1 2 0"), "tray 1", 1);
        due(behind(held(), "hold 1 2 0", "hold 1 0 0"), "tray 1", 0);
    }

    private static void tray() {
        about("20 tray");
        int[] has = {0, 2, 1, 4, 3, 3, 5, 6};
        for (int i = 0; i < 8; i++) {
            due(held(), "tray " + i, has[i]);
        }
        nothing(held(), "tray -1", "tray 8", "tray " + MIN, "tray " + MAX);
        // Kept, whatever becomes of it: the SKIPPED one is taken, the END turns, the LETTER is altered.
        List<int[]> later = behind(held(), "take 1 0", "take 1 1", "limits 6 0", "send 1 1", "take 0 6", "send 0 1", "take 1 7", "alter 1 3");
        for (int i = 0; i < 8; i++) {
            due(later, "tray " + i, has[i]);
        }
        due(later, "forge 7 0 0", key(Q, LOWER_CHAIN, 0));
        due(later, "forge 3 0 0", OTHER_ROOT);
        due(later, "forge 4 0 0", OTHER_CHAIN);
        due(later, "forge 6 0 0", 21);
    }

    private static void act() {
        about("21 act");
        int[] values = {0, key(Q, LOWER_CHAIN, 1), 0, OTHER_ROOT, OTHER_CHAIN, next(Q, LOWER_CHAIN, 3), 21, key(Q, LOWER_CHAIN, 0)};
        for (int x : new int[] {0, 1, -1, 9, 12345, MIN, MAX}) {
            for (int i : new int[] {1, 3, 4, 5, 6, 7}) {
                int v = values[i];
                boolean chain = i >= 3 && i <= 5;
                int move = chain ? (x + v) * 2 : x + v;
                int mix = i == 6 ? move * 3 + 5 : move * 3;
                int tell = i == 3 ? (x ^ v) - 1 : x ^ v;
                int past = x + 1;
                int end = mix - tell;
                if (chain) {
                    end = (past + v) * 2 * 3 - (i == 3 ? (past ^ v) - 1 : past ^ v);
                } else if (i == 7) {
                    end += 6;
                }
                due(held(), "act " + i + " 0 " + x, move);
                due(held(), "act " + i + " 1 " + x, mix);
                due(held(), "act " + i + " 2 " + x, end);
                due(held(), "act " + i + " 3 " + x, tell);
            }
        }
        for (int act = 0; act < 4; act++) {
            refused(held(), "act 0 " + act + " 5", 3);
            refused(held(), "act 2 " + act + " 5", 3);
            refused(held(), "act 8 " + act + " 5", 1);
            refused(held(), "act -1 " + act + " 5", 1);
        }
        refused(held(), "act 0 4 5", 1);
        refused(held(), "act 3 4 5", 1);
        refused(held(), "act 3 -1 5", 1);
        refused(held(), "act 3 " + MAX + " 5", 1);
        // SECRETS are not taken modulo Q.
        due(run("pair", "secret 0 5", "secret 0 9999", "secret 1 6", "start 0", "hold 0 6 0"), "act 0 0 1", 10000);
    }

    private static void trace() {
        about("22 trace");
        traced("act 1 0 5", 10);
        traced("act 1 1 5", 11, 10);
        traced("act 1 2 5", 12, 11, 10, 13);
        traced("act 1 3 5", 13);
        traced("act 4 0 5", 20, 10);
        traced("act 4 1 5", 11, 20, 10);
        traced("act 4 2 5", 21, 12, 11, 20, 10, 13);
        traced("act 5 3 5", 13);
        traced("act 3 0 5", 20, 10);
        traced("act 3 2 5", 21, 12, 11, 20, 10, 30, 13);
        traced("act 3 3 5", 30, 13);
        traced("act 6 0 5", 10);
        traced("act 6 1 5", 40, 11, 10);
        traced("act 6 2 5", 12, 40, 11, 10, 13);
        traced("act 7 1 5", 11, 10);
        traced("act 7 2 5", 50, 12, 11, 10, 13);
        // A refused act() leaves THE TRACE of the one that was done.
        List<int[]> two = behind(held(), "act 3 2 5", "act 0 0 5", "act 8 0 5");
        due(two, "count 4", 7);
        due(two, "trace 5", 30);
        nothing(two, "trace 7", "trace -1", "trace 40", "trace " + MIN, "trace " + MAX);
        due(behind(held(), "act 3 2 5", "act 1 0 5"), "trace 1", -1);
    }

    private static void traced(String act, int... bodies) {
        List<int[]> done = behind(held(), "act 3 2 1", act);
        due(done, "count 4", bodies.length);
        for (int i = 0; i < bodies.length; i++) {
            due(done, "trace " + i, bodies[i]);
        }
        due(done, "trace " + bodies.length, -1);
    }

    // ---- 23 ----

    private static void forgeKind() {
        about("23 forge 0");
        int[] values = {0, key(Q, LOWER_CHAIN, 1), 0, OTHER_ROOT, OTHER_CHAIN, next(Q, LOWER_CHAIN, 3), 21, key(Q, LOWER_CHAIN, 0)};
        String[] fits = {"", "0", "", "012", "01", "01", "03", "04"};
        for (int n = -100; n <= 100; n++) {
            int kind = n - 6 * Math.floorDiv(n, 6);
            for (int i = 0; i < 8 && (n < 13 && n > -13 || n % 50 == 0); i++) {
                if (i == 0) {
                    refused(held(), "forge 0 0 " + n, 10);
                } else if (fits[i].indexOf((char) ('0' + kind)) >= 0) {
                    due(held(), "forge " + i + " 0 " + n, values[i]);
                } else {
                    refused(held(), "forge " + i + " 0 " + n, 11);
                }
            }
        }
    }

    private static void forgeHeader() {
        about("23 forge 1 and 3");
        List<int[]> run = behind(started(), "send 0 1", "send 0 2", "send 0 3", "take 1 0", "send 1 4", "take 0 3", "send 0 6", "send 0 7",
            "hold 2 2 5", "hold 1 1 5");
        int[] header = {power(Q, 11, 14), 3, 1};
        for (int n = 0; n < 3; n++) {
            due(run, "forge 2 1 " + n, header[n]);
        }
        int[] sums = {0, 3, 4};
        for (int n = 0; n < 3; n++) {
            due(run, "forge 2 3 " + n, sums[n]);
        }
        for (int n : new int[] {-100, -1, 3, 4, 5, 100}) {
            refused(run, "forge 2 1 " + n, 12);
            refused(run, "forge 2 3 " + n, 12);
        }
        for (int what : new int[] {1, 3}) {
            for (int n : new int[] {-1, 0, 2, 3}) {
                refused(run, "forge 0 " + what + " " + n, 10);
                refused(run, "forge 1 " + what + " " + n, 11);
            }
        }
    }

    private static void forgeRows() {
        about("23 forge 2 and 4");
        for (int i : new int[] {0, 1, 2, 3, 7}) {
            due(held(), "forge " + i + " 2 0", 0);
            due(held(), "forge " + i + " 2 100", 100);
            refused(held(), "forge " + i + " 2 -1", 13);
            refused(held(), "forge " + i + " 2 -100", 13);
        }
        int[] put = {0, -14, -11, 1, 1, 1, -14, -14};
        for (int i = 0; i < 8; i++) {
            if (put[i] < 0) {
                refused(held(), "forge " + i + " 4 5", -put[i]);
            } else {
                due(held(), "forge " + i + " 4 -5", put[i]);
            }
        }
    }

    private static void forgeNumbers() {
        about("23 forge 5 and 6");
        for (int n = -100; n <= 100; n++) {
            if (n == 0) {
                refused(held(), "forge 0 5 0", 15);
            } else {
                due(held(), "forge 0 5 " + n, 100 / n);
            }
        }
        due(held(), "forge 2 5 7", 14);
        due(held(), "forge 2 5 -7", -14);
        for (int n : new int[] {1, -1, 99, -99}) {
            due(held(), "forge 3 6 " + n, 1);
        }
        for (int n : new int[] {0, 2, -2, 100, -100}) {
            refused(held(), "forge 3 6 " + n, 10);
        }
    }

    private static void forgeWrong() {
        about("23 forge, outside");
        for (int what = 0; what < 7; what++) {
            for (int n : new int[] {-101, 101, MIN, MAX}) {
                refused(held(), "forge 3 " + what + " " + n, 1);
            }
            refused(held(), "forge -1 " + what + " 1", 1);
            refused(held(), "forge 8 " + what + " 1", 1);
        }
        for (int what : new int[] {-1, 7, MIN, MAX}) {
            refused(held(), "forge 3 " + what + " 1", 1);
        }
        // The number outside comes before what the host would refuse.
        refused(held(), "forge 0 2 -101", 1);
        refused(held(), "forge 2 0 101", 1);
    }

    private static void status() {
        about("24 status");
        due(run(), "status", 0);
        due(run("secret 0 1"), "status", 1);
        due(run("secret 0 1", "pair"), "status", 0);
        // Questions leave it, also those that answer -1.
        List<int[]> asked = run("start 5", "count 0", "told 0 0", "letter 0 0", "known 0", "steps 0", "heals 0", "same 0",
            "skipped 0 0 0", "tray 0", "trace 0", "status");
        due(asked, "status", 1);
        due(behind(asked, "limits 1 1", "known 0", "tray 9"), "status", 0);
        due(behind(sixSent(), "take 0 0", "letter 0 0"), "status", 3);
        due(behind(held(), "forge 0 5 0", "tray 0"), "status", 15);
        due(behind(held(), "forge 0 5 0", "hold 0 0 0"), "status", 0);
        due(behind(held(), "forge 0 5 0", "act 3 0 0"), "status", 0);
        due(behind(held(), "forge 0 5 0", "alter 0 1"), "status", 0);
        due(behind(held(), "forge 0 5 0", "see 1"), "status", 0);
        // An act() may answer -1 and be done.
        List<int[]> minus = run("pair", "secret 0 5", "secret 0 9", "secret 1 6", "start 0", "hold 0 6 0");
        due(minus, "act 0 0 -10", -1);
        due(behind(minus, "start 9"), "forge 0 5 -100", -1);
    }
}
