import java.io.IOException;
import java.lang.reflect.Field;
import java.lang.reflect.Method;
import java.lang.reflect.Modifier;
import java.nio.file.Files;
import java.nio.file.Path;
import java.util.ArrayList;
import java.util.Collections;
import java.util.List;
import java.util.Random;
import java.util.regex.Matcher;
import java.util.regex.Pattern;

/** The face of the document, those rules of LANGUAGE.md that a program can see, and wild arguments. */
public final class RulesTest {
    private static final String FACE = "stand/2 place/2 theirs/3 set/2 call/2 listed/1 says/2 jumper/2 of/2 change/3"
        + " gains/2 go/1 now/1 ahead/3 metres/1 when/2 known/0 codeFor/1 callFor/1 standFor/2 kindFor/2 tallFor/3"
        + " cover/0 codes/1 fits/2 tall/2 kinds/2 mix/1 odds/3 seed/1 feed/2 wipe/0 text/0 hold/2 as/2 sheet/3"
        + " write/3 copy/5 load/1 judge/1 image/0 undo/0 tear/0 count/1 status/1";
    private static final String[] BANNED = {"throw", "throws", "try", "catch", "finally", "synchronized", "assert",
        "volatile", "transient", "native", "strictfp", "import", "package", "protected", "var", "yield"};
    private static final int[] EDGES = {Integer.MIN_VALUE, Integer.MIN_VALUE + 1, -1000001, -2, -1, 0, 1, 2, 3, 4, 5, 6,
        7, 8, 9, 10, 11, 16, 20, 21, 32, 39, 40, 41, 60, 61, 99, 100, 101, 119, 120, 255, 999, 1000, 9999, 10000,
        99999, Integer.MAX_VALUE - 1, Integer.MAX_VALUE};

    private static int passed = 0;
    private static int failed = 0;

    private static void check(String what, boolean holds) {
        if (holds) {
            passed++;
        } else {
            failed++;
            System.out.println("not so: " + what);
        }
    }

    public static void main(String[] args) throws Exception {
        face();
        source(args.length > 0 ? args[0] : "src/main/java/LineCalls.java");
        wildArguments();
        System.out.println(passed + " passed, " + failed + " failed");
        if (failed != 0) {
            System.exit(1);
        }
    }

    private static void face() {
        Class<?> face = LineCalls.class;
        check("the class is public and final", Modifier.isPublic(face.getModifiers()) && Modifier.isFinal(face.getModifiers()));
        check("one constructor, public, without parameters",
            face.getDeclaredConstructors().length == 1 && face.getConstructors().length == 1
                && face.getConstructors()[0].getParameterCount() == 0);
        List<String> seen = new ArrayList<>();
        List<String> names = new ArrayList<>();
        for (Method m : face.getDeclaredMethods()) {
            if (Modifier.isPublic(m.getModifiers())) {
                seen.add(m.getName() + "/" + m.getParameterCount());
                names.add(m.getName());
                check(m.getName() + " answers as told", m.getReturnType() == (m.getName().equals("odds") ? long.class : int.class));
                check(m.getName() + " is no static one", !Modifier.isStatic(m.getModifiers()));
            } else {
                check(m.getName() + " is private", Modifier.isPrivate(m.getModifiers()));
            }
        }
        List<String> due = new ArrayList<>(List.of(FACE.split(" ")));
        Collections.sort(due);
        Collections.sort(seen);
        check("the face is the document's: " + seen, seen.equals(due));
        for (Field f : face.getDeclaredFields()) {
            check("field " + f.getName() + " is private", Modifier.isPrivate(f.getModifiers()));
        }
        membersInside(face, names);
    }

    private static void membersInside(Class<?> face, List<String> publicNames) {
        List<Class<?>> classes = new ArrayList<>(List.of(face.getDeclaredClasses()));
        check("some twelve classes at most", classes.size() < 12);
        for (Class<?> c : classes) {
            check(c + " is static", Modifier.isStatic(c.getModifiers()));
        }
        classes.add(face);
        for (Class<?> c : classes) {
            int fields = 0;
            for (Field f : c.getDeclaredFields()) {
                boolean isStatic = Modifier.isStatic(f.getModifiers());
                fields += isStatic ? 0 : 1;
                check("static field " + f.getName() + " is final", !isStatic || Modifier.isFinal(f.getModifiers()));
            }
            check("some twenty fields at most in " + c, fields <= 20);
            for (Method m : c.getDeclaredMethods()) {
                check(m + " has a name of its own", Modifier.isPublic(m.getModifiers()) || !publicNames.contains(m.getName()));
                check(m + " takes at most seven", m.getParameterCount() <= 7);
                check(m + " is no lambda's", !m.isSynthetic());
            }
        }
    }

    private static void source(String path) throws IOException {
        String code = withoutTexts(Files.readString(Path.of(path)));
        for (String word : BANNED) {
            check("no " + word, !Pattern.compile("\\b" + word + "\\b").matcher(code).find());
        }
        check("no lambda", !code.contains("->"));
        check("no method reference", !code.contains("::"));
        check("no annotation", !code.contains("@"));
        check("no static block", !Pattern.compile("\\bstatic\\s*\\{").matcher(code).find());
        divisors(code);
        lengths(code);
        Matcher made = Pattern.compile("\\bnew\\s+(\\w+)").matcher(code);
        while (made.find()) {
            check("made: " + made.group(1), "int byte Line Tape TextReader Sheet".contains(made.group(1)));
        }
        Matcher library = Pattern.compile("\\b([A-Z][a-z]\\w*)\\.([a-z]\\w*)").matcher(code);
        while (library.find()) {
            String used = library.group(1) + "." + library.group(2);
            check("library: " + used, "System.arraycopy Math.max Math.min Integer.bitCount".contains(used));
        }
    }

    /** A divisor is a number, a constant, or a name that is looked at (less != 0, divisor > 1) before it divides. */
    private static void divisors(String code) {
        Matcher divided = Pattern.compile("[/%]=?\\s*([\\w.]+|\\()\\s*(\\()?").matcher(code);
        while (divided.find()) {
            String divisor = divided.group(1);
            boolean plain = divisor.matches("[1-9][0-9]*|[A-Z][A-Z_]*");
            boolean lookedAt = divisor.matches("[a-z]\\w*") && divided.group(2) == null
                && Pattern.compile("\\b" + divisor + " (!= 0|> [0-9])").matcher(code.substring(0, divided.start())).find();
            check("a divisor that is looked at: " + divided.group(), plain || lookedAt);
        }
    }

    /** Methods stay short: some sixty lines. A method begins and ends in the same column. */
    private static void lengths(String code) {
        String[] lines = code.split("\n");
        for (int i = 0; i < lines.length; i++) {
            Matcher head = Pattern.compile("^( {4}| {8})[a-z].*\\b(\\w+)\\([^()]*\\) \\{$").matcher(lines[i]);
            if (head.find() && !head.group(2).matches("if|for|while|switch")) {
                int last = i;
                while (last < lines.length && !lines[last].equals(head.group(1) + "}")) {
                    last++;
                }
                check(head.group(2) + " is short", last - i < 60);
            }
        }
    }

    private static String withoutTexts(String code) {
        return code.replaceAll("(?s)/\\*.*?\\*/", " ").replaceAll("//[^\n]*", " ").replaceAll("\"[^\"\n]*\"", "\"\"");
    }

    /** Whatever is asked, in whatever state: the machine never throws. */
    private static void wildArguments() throws Exception {
        Random random = new Random(20261117);
        List<Method> methods = new ArrayList<>();
        for (Method m : LineCalls.class.getDeclaredMethods()) {
            if (Modifier.isPublic(m.getModifiers())) {
                methods.add(m);
            }
        }
        methods.sort((a, b) -> a.getName().compareTo(b.getName()));
        for (int run = 0; run < 300; run++) {
            LineCalls x = new LineCalls();
            for (int i = 0; i < 512; i++) {
                Method m = methods.get(random.nextInt(methods.size()));
                Object[] arguments = new Object[m.getParameterCount()];
                for (int a = 0; a < arguments.length; a++) {
                    arguments[a] = random.nextInt(4) == 0 ? random.nextInt() : EDGES[random.nextInt(EDGES.length)];
                }
                m.invoke(x, arguments);
            }
        }
        check("wild arguments end", true);
    }
}
