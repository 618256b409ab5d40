import java.lang.reflect.Method;
import java.util.ArrayList;
import java.util.Arrays;
import java.util.List;

/** Calls as rows of numbers (which method, then its arguments), so that a run can be kept, told and played again. */
final class Calls {
    static final int MOST_CALLS = 512;

    static final String[] NAMES = {
        "prime", "limits", "pair", "secret", "start", "send", "alter", "take", "see", "hold", "act", "forge",
        "known", "steps", "heals", "same", "told", "skipped", "letter", "count", "tray", "trace", "status",
    };
    /** The methods before this one are no questions. */
    static final int FIRST_QUESTION = 12;
    private static final Method[] OF_PROGRAM = methods(RatchetPost.class);
    private static final Method[] OF_MODEL = methods(Model.class);

    private Calls() {
    }

    static int number(String name) {
        return Arrays.asList(NAMES).indexOf(name);
    }

    static int[] call(String name, int... arguments) {
        int[] c = new int[4];
        c[0] = number(name);
        if (c[0] < 0) {
            throw new IllegalArgumentException(name);
        }
        System.arraycopy(arguments, 0, c, 1, arguments.length);
        return c;
    }

    /** A call told as a text: "send 0 65". */
    static int[] parsed(String told) {
        String[] words = told.split(" ");
        int[] arguments = new int[words.length - 1];
        for (int i = 0; i < arguments.length; i++) {
            arguments[i] = Integer.parseInt(words[i + 1]);
        }
        return call(words[0], arguments);
    }

    /** What the program or the Model answers to a call; both have the face of the program. */
    static int answer(Object x, int[] c) {
        Method m = (x instanceof Model ? OF_MODEL : OF_PROGRAM)[c[0]];
        Object[] arguments = new Object[m.getParameterCount()];
        for (int i = 0; i < arguments.length; i++) {
            arguments[i] = c[i + 1];
        }
        try {
            return (Integer) m.invoke(x, arguments);
        } catch (ReflectiveOperationException e) {
            throw new IllegalStateException(text(c) + " failed", e);
        }
    }

    private static Method[] methods(Class<?> face) {
        Method[] found = new Method[NAMES.length];
        for (Method m : RatchetPost.class.getMethods()) {
            try {
                if (number(m.getName()) >= 0) {
                    found[number(m.getName())] = face.getDeclaredMethod(m.getName(), m.getParameterTypes());
                }
            } catch (NoSuchMethodException e) {
                throw new IllegalStateException(e);
            }
        }
        return found;
    }

    static String text(int[] c) {
        return NAMES[c[0]] + Arrays.toString(Arrays.copyOfRange(c, 1, 4));
    }

    /** All questions, but for status(), that can tell two states apart. */
    static List<int[]> questions(int letters) {
        List<int[]> all = new ArrayList<>();
        for (int what = 0; what < 5; what++) {
            all.add(call("count", what));
        }
        for (int end = 0; end < 12; end++) {
            for (int what = 0; what < 10; what++) {
                all.add(call("told", end, what));
            }
        }
        for (int pair = 0; pair < 6; pair++) {
            all.add(call("same", pair));
            all.add(call("heals", pair));
        }
        for (int tray = 0; tray < 8; tray++) {
            all.add(call("tray", tray));
        }
        for (int i = 0; i < 10; i++) {
            all.add(call("trace", i));
        }
        for (int end = 0; end < 4; end++) {
            for (int i = 0; i < 12; i++) {
                for (int what = 0; what < 4; what++) {
                    all.add(call("skipped", end, i, what));
                }
            }
        }
        for (int l = 0; l < letters; l++) {
            all.add(call("known", l));
            all.add(call("steps", l));
            for (int what = 0; what < 6; what++) {
                all.add(call("letter", l, what));
            }
        }
        return all;
    }

    /** What every question answers behind a run; on new objects, so that none is asked more than 512 times. */
    static String snapshot(List<int[]> run, int letters) {
        if (run.size() >= MOST_CALLS) {
            throw new IllegalArgumentException("no call is left for a question");
        }
        StringBuilder told = new StringBuilder();
        RatchetPost x = null;
        int asked = 0;
        for (int[] question : questions(letters)) {
            if (x == null || asked == MOST_CALLS) {
                x = played(run);
                asked = run.size();
            }
            told.append(text(question)).append('=').append(answer(x, question)).append('\n');
            asked++;
        }
        return told.toString();
    }

    static RatchetPost played(List<int[]> run) {
        RatchetPost x = new RatchetPost();
        for (int[] c : run) {
            answer(x, c);
        }
        return x;
    }
}
