import java.lang.reflect.Constructor;
import java.lang.reflect.Field;
import java.lang.reflect.Method;
import java.lang.reflect.Modifier;
import java.nio.file.Files;
import java.nio.file.Path;
import java.util.ArrayList;
import java.util.List;
import java.util.Set;
import java.util.TreeSet;
import java.util.regex.Pattern;

/** What of LANGUAGE.md can be seen from outside: the face, the sizes, and words that the program must not have. */
public final class LanguageTest {
    private static final Set<String> FACE = Set.of(
        "int stuff(int,int)", "int wall(int,int,int,int,int)", "int cover(int,int)", "int back()",
        "int source(int,int,int)", "int seat(int,int)", "int move(int,int,int,int)", "int rule(int,int)",
        "int told(int,int)", "int count(int)", "int paths(int,int,int)", "long path(int,int,int,int)",
        "int sees(int,int,int,int,int)", "long heard(int,int,int)", "long at(int,int,int)", "long left(long,int)",
        "int worst(int)", "int best(int,int,int,int,int)");
    private static final Set<String> CONSTANTS = Set.of("NONE", "UNKNOWN", "OUTSIDE", "NOT", "FULL");
    private static final String[] BANNED = {
        "\\bthrow\\b", "\\btry\\b", "\\bcatch\\b", "\\bsynchronized\\b", "\\bassert\\b", "\\bimport\\b", "\\bpackage\\b",
        "\\bprotected\\b", "->", "::", "Exact\\b", "\\bwhile \\(true\\)", "\\bfor \\(;;\\)", "\\bSystem\\.(?!arraycopy)",
        "\\bequals\\b", "\\bhashCode\\b", "\\btoString\\b", "\\bdouble\\b", "\\bfloat\\b", "\\bstatic \\{"};

    private static final int METHOD_LINES = 60;

    private static int wrong = 0;

    private static void check(boolean holds, String what) {
        if (!holds) {
            wrong++;
            System.out.println("language: " + what);
        }
    }

    private static String signature(Method m) {
        List<String> types = new ArrayList<>();
        for (Class<?> type : m.getParameterTypes()) types.add(type.getSimpleName());
        return m.getReturnType().getSimpleName() + " " + m.getName() + "(" + String.join(",", types) + ")";
    }

    private static void face() {
        int kind = HallHeard.class.getModifiers();
        check(Modifier.isPublic(kind) && Modifier.isFinal(kind), "the class is public and final");
        Set<String> open = new TreeSet<>();
        Set<String> openNames = new TreeSet<>();
        for (Method m : HallHeard.class.getDeclaredMethods()) {
            if (Modifier.isPrivate(m.getModifiers())) continue;
            check(Modifier.isPublic(m.getModifiers()) && !Modifier.isStatic(m.getModifiers()), "face: " + m);
            open.add(signature(m));
            openNames.add(m.getName());
        }
        check(open.equals(new TreeSet<>(FACE)), "the face is " + open);
        for (Method m : HallHeard.class.getDeclaredMethods()) {
            check(!Modifier.isPrivate(m.getModifiers()) || !openNames.contains(m.getName()), "a private " + m.getName());
        }
        Constructor<?>[] makers = HallHeard.class.getDeclaredConstructors();
        check(makers.length == 1 && makers[0].getParameterCount() == 0 && Modifier.isPublic(makers[0].getModifiers()),
            "one public constructor without parameters");
        Set<String> constants = new TreeSet<>();
        for (Field f : HallHeard.class.getDeclaredFields()) {
            if (!Modifier.isPrivate(f.getModifiers())) constants.add(f.getName());
        }
        check(constants.equals(new TreeSet<>(CONSTANTS)), "the constants are " + constants);
    }

    private static void sizes(Class<?> type) {
        int changing = 0;
        for (Field f : type.getDeclaredFields()) {
            if (Modifier.isStatic(f.getModifiers())) check(Modifier.isFinal(f.getModifiers()), "final: " + f);
            else changing++;
        }
        check(changing <= 20, type + " has " + changing + " fields");
        for (Method m : type.getDeclaredMethods()) check(m.getParameterCount() <= 7, "seven parameters: " + m);
    }

    private static void classes() {
        Class<?>[] inside = HallHeard.class.getDeclaredClasses();
        check(inside.length < 12, inside.length + " classes inside");
        sizes(HallHeard.class);
        for (Class<?> type : inside) {
            check(Modifier.isStatic(type.getModifiers()), type + " is static");
            sizes(type);
        }
    }

    /** A method's first and last line stand at the same depth, 4 in the class or 8 in one inside it. */
    private static void lengths(String text) {
        String[] lines = text.split("\n");
        for (int from = 0; from < lines.length; from++) {
            if (!lines[from].matches("( {4}| {8})[\\w].*\\) \\{")) continue;
            String end = lines[from].replaceAll("^( +).*", "$1") + "}";
            int to = from;
            while (to < lines.length && !lines[to].equals(end)) to++;
            check(to - from < METHOD_LINES, "a method of " + (to - from + 1) + " lines: " + lines[from].trim());
        }
    }

    private static void words() throws Exception {
        String text = Files.readString(Path.of("src/main/java/HallHeard.java"));
        lengths(text);
        check(text.chars().allMatch(c -> c < 256), "characters 0 to 255");
        String code = Pattern.compile("/\\*.*?\\*/", Pattern.DOTALL).matcher(text).replaceAll("");
        code = code.replaceAll("//[^\n]*", "");
        for (String banned : BANNED) check(!Pattern.compile(banned).matcher(code).find(), "the program has " + banned);
    }

    public static void main(String[] args) throws Exception {
        face();
        classes();
        words();
        System.out.println(wrong == 0 ? "the language is kept to" : wrong + " faults of language");
        if (wrong != 0) System.exit(1);
    }
}
