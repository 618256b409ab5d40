import java.math.BigInteger;
import java.util.ArrayList;
import java.util.List;

/**
 * What the tests of the document stand on: runs told as texts ("send 0 65"), what is due behind them, the arithmetic
 * of the document, and the runs that many tests begin with.
 */
abstract class Checks {
    static final int MIN = Integer.MIN_VALUE;
    static final int MAX = Integer.MAX_VALUE;
    private static int wrong = 0;
    private static String about = "";

    // ---- what was found ----

    /** What the checks behind this are about; it is told with each that fails. */
    static void about(String what) {
        about = what;
    }

    static void check(boolean right, String what) {
        if (!right) {
            wrong++;
            System.out.println(about + ": " + what);
        }
    }

    static void finish(String good) {
        System.out.println(wrong == 0 ? good : wrong + " answers are not as due");
        if (wrong != 0) {
            System.exit(1);
        }
    }

    // ---- runs ----

    static List<int[]> run(String... told) {
        return behind(new ArrayList<>(), told);
    }

    static List<int[]> behind(List<int[]> run, String... told) {
        List<int[]> longer = new ArrayList<>(run);
        for (String t : told) {
            longer.add(Calls.parsed(t));
        }
        return longer;
    }

    static List<int[]> repeated(List<int[]> run, int times, String told) {
        List<int[]> longer = new ArrayList<>(run);
        for (int i = 0; i < times; i++) {
            longer.add(Calls.parsed(told));
        }
        return longer;
    }

    static int answer(List<int[]> run, String told) {
        return Calls.answer(Calls.played(run), Calls.parsed(told));
    }

    /** The call answers so behind the run, and is done (STATUS 0), if it is no question. */
    static void due(List<int[]> run, String told, int want) {
        RatchetPost x = Calls.played(run);
        int[] c = Calls.parsed(told);
        int got = Calls.answer(x, c);
        check(got == want, told + " answered " + got + ", due is " + want);
        check(c[0] >= Calls.FIRST_QUESTION || x.status() == 0, told + " left STATUS " + x.status() + ", due is 0");
    }

    /** The call is done (STATUS 0) behind the run, whatever it answers. */
    static void done(List<int[]> run, String told) {
        due(run, told, answer(run, told));
    }

    /** The call answers -1 behind the run, leaves that STATUS, and nothing else is changed. */
    static void refused(List<int[]> run, String told, int status) {
        RatchetPost x = Calls.played(run);
        int got = Calls.answer(x, Calls.parsed(told));
        check(got == -1, told + " answered " + got + ", due is -1");
        check(x.status() == status, told + " left STATUS " + x.status() + ", due is " + status);
        int letters = Calls.played(run).count(1);
        List<int[]> with = behind(run, told);
        boolean same = Calls.snapshot(run, letters).equals(Calls.snapshot(with, letters));
        check(same, told + " was refused, but changed something");
        check(later(run, letters, 0).equals(later(with, letters, 1)), told + " was refused, but changed what comes later");
    }

    static void nothing(List<int[]> run, String... questions) {
        for (String q : questions) {
            due(run, q, -1);
        }
    }

    /** From low to high the call is done; what lies outside is none such (STATUS 1). */
    static void edges(List<int[]> run, String call, int low, int high) {
        done(run, call.replace("#", "" + low));
        done(run, call.replace("#", "" + high));
        for (int outside : outside(low, high)) {
            refused(run, call.replace("#", "" + outside), 1);
        }
    }

    /** From low to high the question is answered; outside it is -1. */
    static void answered(List<int[]> run, String question, int low, int high) {
        for (int inside : new int[] {low, high}) {
            String asked = question.replace("#", "" + inside);
            check(answer(run, asked) != -1, asked + " answered -1");
        }
        for (int outside : outside(low, high)) {
            due(run, question.replace("#", "" + outside), -1);
        }
    }

    private static int[] outside(int low, int high) {
        return new int[] {low - 1, high + 1, MIN, MIN + 1, MAX, 1 << 30};
    }

    // ---- what cannot be asked for, but shows later ----

    /** What the calls of later() answer behind a run, of which so many calls are not counted. */
    private static String later(List<int[]> run, int letters, int uncounted) {
        RatchetPost x = Calls.played(run);
        StringBuilder told = new StringBuilder();
        int left = Calls.MOST_CALLS - 1 - (run.size() - uncounted);
        for (int[] c : later(letters)) {
            if (left > 0) {
                told.append(Calls.text(c)).append('=').append(Calls.answer(x, c)).append('\n');
            }
            left--;
        }
        return told.toString();
    }

    /** Calls that show Q and G, the ROWS, what TRAYS hold, what was SEEN or LEFT, MOST (END 1 takes), LIFE. */
    private static List<int[]> later(int letters) {
        List<int[]> calls = run("pair", "secret 0 71", "secret 0 72", "secret 1 73", "secret 1 74", "start 0", "told 0 1", "told 1 1");
        for (int tray = 0; tray < 8; tray++) {
            calls = behind(calls, "forge " + tray + " 0 0", "act " + tray + " 2 5");
        }
        for (int letter = 0; letter < Math.min(letters, 10); letter++) {
            calls = behind(calls, "take 0 " + letter, "take 1 " + letter);
        }
        calls = behind(calls, "see 0", "see 1", "see 2");
        calls = repeated(calls, 14, "send 0 5");
        for (int letter = letters + 13; letter >= letters; letter--) {
            calls = behind(calls, "take 1 " + letter, "told 1 9");
        }
        // Every other one, so that some are SKIPPED that can end.
        calls = behind(calls, "send 0 5", "send 0 5");
        for (int letter = letters + 1; letter < letters + 16; letter += 2) {
            calls = behind(calls, "take 1 " + letter);
        }
        for (int i = 0; i < 60; i++) {
            calls = behind(calls, "send 0 6", "told 1 9", "told 1 2");
        }
        return calls;
    }

    // ---- the arithmetic of the document ----

    static int power(int q, int b, int e) {
        return BigInteger.valueOf(b).modPow(BigInteger.valueOf(e), BigInteger.valueOf(q)).intValue();
    }

    static int mix(int q, long x, long y) {
        return (int) ((31 * x + 17 * y + x * y + 7) % q);
    }

    static int next(int q, int chain, int places) {
        int c = chain;
        for (int i = 0; i < places; i++) {
            c = mix(q, c, 2);
        }
        return c;
    }

    static int key(int q, int chain, int places) {
        return mix(q, next(q, chain, places), 1);
    }

    // ---- runs that many tests begin with: Q 1009, G 11 ----

    static final int Q = 1009;
    static final int FIRST = power(Q, 11, 5 * 8);
    static final int LOWER_ROOT = mix(Q, FIRST, power(Q, 11, 9 * 8));
    static final int LOWER_CHAIN = mix(Q, LOWER_ROOT, 3);
    static final int OTHER_ROOT = mix(Q, LOWER_ROOT, power(Q, 11, 9 * 21));
    static final int OTHER_CHAIN = mix(Q, OTHER_ROOT, 3);

    static List<int[]> filled() {
        return run("prime 1009 11", "pair", "secret 0 5", "secret 0 9", "secret 0 14", "secret 0 17",
            "secret 1 8", "secret 1 21", "secret 1 33", "secret 1 40");
    }

    static List<int[]> started() {
        return behind(filled(), "start 0");
    }

    /** The lower END sent LETTERS 0 to 5, of which the other one took none. */
    static List<int[]> sixSent() {
        return behind(started(), "send 0 10", "send 0 11", "send 0 12", "send 0 13", "send 0 14", "send 0 15");
    }

    /** TRAYS: 0 nothing, 1 a KEY, 2 a LETTER, 3 a ROOT, 4 and 5 the CHAINS, 6 a SECRET, 7 a SKIPPED one, all of END 1. */
    static List<int[]> held() {
        return behind(sixSent(), "take 1 2", "hold 0 0 0", "hold 1 1 1", "hold 2 2 1", "hold 3 3 1", "hold 4 4 1",
            "hold 5 5 1", "hold 6 6 1", "hold 7 7 1");
    }
}
