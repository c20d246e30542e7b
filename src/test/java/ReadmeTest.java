import java.lang.reflect.Method;
import java.lang.reflect.Modifier;
import java.net.URL;
import java.net.URLClassLoader;
import java.nio.file.Files;
import java.nio.file.Path;
import java.util.ArrayList;
import java.util.List;
import java.util.Set;
import java.util.TreeSet;
import java.util.regex.Matcher;
import java.util.regex.Pattern;
import java.util.stream.Stream;
import javax.tools.JavaCompiler;
import javax.tools.ToolProvider;

/** README.md: its examples are compiled and run, and what their comments say is compared; its tables name every call. */
public final class ReadmeTest {
    private static final Pattern EXAMPLE = Pattern.compile("(?s)```java\n(.*?)```");
    /** A call of an example, perhaps kept by a name, with the answer that its comment begins with. */
    private static final Pattern TOLD = Pattern.compile("^(int (\\w+) = )?(x\\.\\w+\\(.*\\));\\s+// (-?\\d+)(:.*)?$");
    private static final Pattern ROW = Pattern.compile("(?m)^\\| `(\\w+)\\(([^)]*)\\)` \\| \\S");

    private static int answers = 0;
    private static int wrong = 0;

    public static void due(String line, long got, long want) {
        answers++;
        if (got != want) {
            wrong(line + " answered " + got);
        }
    }

    private static void wrong(String what) {
        wrong++;
        System.out.println("not so: " + what);
    }

    public static void main(String[] args) throws Exception {
        String page = Files.readString(Path.of("README.md"));
        tables(page);
        int told = examples(page);
        if (told == 0 || answers != told) {
            wrong(told + " answers are told, " + answers + " were compared");
        }
        System.out.println(answers + " answers of the examples, " + wrong + " wrong");
        if (wrong != 0) {
            System.exit(1);
        }
    }

    private static void tables(String page) {
        Set<String> named = new TreeSet<>();
        Matcher row = ROW.matcher(page);
        while (row.find()) {
            String call = row.group(1) + "/" + (row.group(2).isEmpty() ? 0 : row.group(2).split(", ").length);
            if (!named.add(call)) {
                wrong("named twice: " + call);
            }
        }
        Set<String> face = new TreeSet<>();
        for (Method m : LineCalls.class.getDeclaredMethods()) {
            if (Modifier.isPublic(m.getModifiers())) {
                face.add(m.getName() + "/" + m.getParameterCount());
            }
        }
        if (!named.equals(face)) {
            wrong("the tables name " + named + ", the class has " + face);
        }
    }

    /** Runs the examples: how many answers they tell. */
    private static int examples(String page) throws Exception {
        int told = 0;
        StringBuilder source = new StringBuilder("public final class Examples {\n");
        List<String> names = new ArrayList<>();
        Matcher example = EXAMPLE.matcher(page);
        while (example.find()) {
            names.add("example" + names.size());
            source.append("public static void ").append(names.get(names.size() - 1)).append("() {\n");
            for (String line : example.group(1).split("\n")) {
                Matcher call = TOLD.matcher(line);
                if (call.matches()) {
                    told++;
                    source.append(compared(call));
                } else {
                    source.append(line).append('\n');
                    if (line.contains("//")) {
                        wrong("no answer is told by: " + line);
                    }
                }
            }
            source.append("}\n");
        }
        run(source.append("}\n").toString(), names);
        return told;
    }

    private static String compared(Matcher call) {
        String kept = call.group(2) == null ? "" : "int " + call.group(2) + " = " + call.group(3) + ";\n";
        String answer = call.group(2) == null ? call.group(3) : call.group(2);
        String line = call.group(3).replace("\\", "\\\\").replace("\"", "\\\"");
        return kept + "ReadmeTest.due(\"" + line + "\", " + answer + ", " + call.group(4) + "L);\n";
    }

    private static void run(String source, List<String> names) throws Exception {
        Path folder = Files.createTempDirectory("readme");
        try {
            Path file = Files.writeString(folder.resolve("Examples.java"), source);
            JavaCompiler compiler = ToolProvider.getSystemJavaCompiler();
            int failed = compiler == null ? 1 : compiler.run(null, null, null, "-cp", System.getProperty("java.class.path"),
                "-d", folder.toString(), file.toString());
            if (failed != 0) {
                wrong("the examples don't compile");
                return;
            }
            try (URLClassLoader loader = new URLClassLoader(new URL[] {folder.toUri().toURL()})) {
                Class<?> examples = loader.loadClass("Examples");
                for (String name : names) {
                    examples.getMethod(name).invoke(null);
                }
            }
        } finally {
            try (Stream<Path> files = Files.list(folder)) {
                for (Path file : (Iterable<Path>) files::iterator) {
                    Files.delete(file);
                }
            }
            Files.delete(folder);
        }
    }
}
