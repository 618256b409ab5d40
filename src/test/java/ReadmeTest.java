import java.io.IOException;
import java.nio.charset.StandardCharsets;
import java.nio.file.Files;
import java.nio.file.Path;
import java.util.regex.Matcher;
import java.util.regex.Pattern;

/** Plays the run that README.md tells: each call of it must answer what stands beside it. */
public final class ReadmeTest {
    private static final Pattern CALL = Pattern.compile("post\\.(\\w+)\\(([-0-9, ]*)\\); +// (-?\\d+)(?:: .*)?");
    private static final int FEWEST = 20;

    private ReadmeTest() {
    }

    public static void main(String[] args) throws IOException {
        RatchetPost post = new RatchetPost();
        boolean inside = false;
        int calls = 0;
        int wrong = 0;
        for (String line : Files.readAllLines(Path.of(args[1]), StandardCharsets.UTF_8)) {
            if (line.startsWith("```")) {
                inside = line.equals("```java");
            } else if (inside && !line.equals("RatchetPost post = new RatchetPost();")) {
                calls++;
                String fault = fault(post, line);
                if (fault != null) {
                    wrong++;
                    System.out.println(line + " <- " + fault);
                }
            }
        }
        if (wrong > 0 || calls < FEWEST) {
            System.out.println(wrong + " of " + calls + " calls in the README are not as told");
            System.exit(1);
        }
        System.out.println("the README's " + calls + " calls are as told");
    }

    /** What is wrong with a line of the run, null if nothing is. */
    private static String fault(RatchetPost post, String line) {
        Matcher m = CALL.matcher(line);
        if (!m.matches()) {
            return "not told as a call with its answer";
        }
        String call = (m.group(1) + " " + m.group(2).replace(",", "")).trim();
        int got = Calls.answer(post, Calls.parsed(call));
        return got == Integer.parseInt(m.group(3)) ? null : "answered " + got;
    }
}
