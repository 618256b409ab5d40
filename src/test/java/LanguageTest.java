import java.io.IOException;
import java.lang.reflect.Constructor;
import java.lang.reflect.Field;
import java.lang.reflect.Method;
import java.lang.reflect.Modifier;
import java.nio.charset.StandardCharsets;
import java.nio.file.Files;
import java.nio.file.Path;
import java.util.Arrays;
import java.util.Set;
import java.util.TreeSet;
import java.util.regex.Matcher;
import java.util.regex.Pattern;

/** Looks for breaches of LANGUAGE.md that can be found by reflection or in the text of the program. */
public final class LanguageTest {
    private static final String[] FACE = {
        "prime 2", "limits 2", "pair 0", "secret 2", "start 1", "send 2", "alter 2", "take 2", "see 1", "known 1",
        "steps 1", "heals 1", "same 1", "told 2", "skipped 3", "letter 2", "count 1", "hold 3", "tray 1", "act 3",
        "trace 1", "forge 3", "status 0",
    };
    private static final String[] FORBIDDEN = {
        "\\bthrow\\b", "\\bthrows\\b", "\\btry\\b", "\\bcatch\\b", "\\bsynchronized\\b", "\\bassert\\b", "->", "::", "\\bpackage\\b",
        "\\bequals\\b", "\\bhashCode\\b", "\\btoString\\b", "\\bObject\\b", "\\bSystem\\.(?!arraycopy)", "\\bThread\\b", "\\bMath\\.random\\b",
        "Exact\\b", "\\bstatic\\s*\\{", "[^\\x00-\\x7f]", "\\bprotected\\b", "\\bvar\\b", "\\bwhile\\s*\\(\\s*true",
    };
    private static final Set<String> IMPORTS = Set.of("java.util.ArrayList", "java.util.List", "java.util.Arrays", "java.util.Iterator");
    private static int wrong = 0;

    private LanguageTest() {
    }

    public static void main(String[] args) throws IOException {
        String source = Files.readString(Path.of(args[0]), StandardCharsets.UTF_8);
        text(withoutComments(source));
        face();
        for (Class<?> inside : RatchetPost.class.getDeclaredClasses()) {
            check(Modifier.isStatic(inside.getModifiers()) && !Modifier.isPublic(inside.getModifiers()), inside + " is not static, or public");
            members(inside);
        }
        members(RatchetPost.class);
        check(RatchetPost.class.getDeclaredClasses().length < 12, "too many classes");
        System.out.println(wrong == 0 ? "no breach of the language was found" : wrong + " breaches of the language");
        if (wrong != 0) {
            System.exit(1);
        }
    }

    private static void check(boolean right, String what) {
        if (!right) {
            wrong++;
            System.out.println(what);
        }
    }

    private static String withoutComments(String source) {
        return source.replaceAll("(?s)/\\*.*?\\*/", " ").replaceAll("//[^\n]*", " ");
    }

    private static void text(String code) {
        for (String forbidden : FORBIDDEN) {
            Matcher m = Pattern.compile(forbidden).matcher(code);
            check(!m.find(), "the program has " + forbidden);
        }
        Matcher imports = Pattern.compile("\\bimport\\s+([^;]*);").matcher(code);
        while (imports.find()) {
            check(IMPORTS.contains(imports.group(1).trim()), "the program imports " + imports.group(1));
        }
    }

    private static void face() {
        Set<String> found = new TreeSet<>();
        for (Method m : RatchetPost.class.getDeclaredMethods()) {
            if (!Modifier.isPrivate(m.getModifiers())) {
                boolean plain = Modifier.isPublic(m.getModifiers()) && !Modifier.isStatic(m.getModifiers()) && m.getReturnType() == int.class;
                for (Class<?> type : m.getParameterTypes()) {
                    plain &= type == int.class;
                }
                found.add((plain ? "" : "not as told: ") + m.getName() + " " + m.getParameterCount());
            }
        }
        check(found.equals(new TreeSet<>(Arrays.asList(FACE))), "the public face is " + found);
        for (Field f : RatchetPost.class.getDeclaredFields()) {
            check(Modifier.isPrivate(f.getModifiers()), f + " is not private");
        }
        Constructor<?>[] made = RatchetPost.class.getDeclaredConstructors();
        check(made.length == 1 && Modifier.isPublic(made[0].getModifiers()) && made[0].getParameterCount() == 0, "constructors");
        int m = RatchetPost.class.getModifiers();
        check(Modifier.isPublic(m) && Modifier.isFinal(m), "the class is not public and final");
    }

    private static void members(Class<?> c) {
        int fields = 0;
        for (Field f : c.getDeclaredFields()) {
            boolean constant = Modifier.isStatic(f.getModifiers());
            check(!constant || Modifier.isFinal(f.getModifiers()), f + " is static and not final");
            fields += constant ? 0 : 1;
        }
        check(fields <= 20, c + " has " + fields + " fields");
        for (Method m : c.getDeclaredMethods()) {
            check(m.getParameterCount() <= 7, m + " has too many parameters");
            boolean isFace = c == RatchetPost.class && Modifier.isPublic(m.getModifiers());
            for (String name : FACE) {
                check(isFace || !name.startsWith(m.getName() + " "), m + " bears the name of a public method");
            }
        }
    }
}
