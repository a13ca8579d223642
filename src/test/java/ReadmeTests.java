import java.io.IOException;
import java.net.URL;
import java.net.URLClassLoader;
import java.nio.file.Files;
import java.nio.file.Path;
import java.util.ArrayList;
import java.util.List;
import java.util.regex.Matcher;
import java.util.regex.Pattern;
import javax.tools.ToolProvider;

/** The calls in README.md answer what stands behind them. Run from the project's root. */
public final class ReadmeTests {
    private static final Pattern ANSWERED = Pattern.compile("(?:int (\\w+) = )?(.*?);\\s*// (-?\\d+|true|false)\\b.*");

    private static List<String> examples(String readme) {
        List<String> all = new ArrayList<>();
        Matcher blocks = Pattern.compile("(?s)```java\n(.*?)```").matcher(readme);
        while (blocks.find()) {
            all.add(blocks.group(1));
        }
        return all;
    }

    /** A call with an answer behind it becomes one that tells if it is answered otherwise. */
    private static String checked(String line) {
        Matcher m = ANSWERED.matcher(line);
        if (!m.matches()) {
            return line + "\n";
        }
        String call = "due(\"" + m.group(2) + "\", \"" + m.group(3) + "\", " + (m.group(1) == null ? m.group(2) : m.group(1)) + ");\n";
        return m.group(1) == null ? call : "int " + m.group(1) + " = " + m.group(2) + ";\n" + call;
    }

    private static String program(List<String> examples) {
        StringBuilder methods = new StringBuilder();
        StringBuilder run = new StringBuilder();
        for (String example : examples) {
            if (example.startsWith("static ")) {
                methods.append(example);
                continue;
            }
            for (String line : example.split("\n")) {
                run.append(checked(line));
            }
        }
        return "public class Examples {\n" + methods + "static int calls = 0;\nstatic int wrong = 0;\n"
            + "static void due(String call, String want, Object got) {\ncalls++;\n"
            + "if (!want.equals(\"\" + got)) {\nwrong++;\nSystem.out.println(call + \" answered \" + got + \", README says \" + want);\n}\n}\n"
            + "public static int[] run() {\n" + run + "return new int[] {calls, wrong};\n}\n}\n";
    }

    private static int[] run(String program) throws IOException, ReflectiveOperationException {
        Path out = Files.createTempDirectory("readme");
        Path file = out.resolve("Examples.java");
        Files.writeString(file, program);
        String classes = ReadmeTests.class.getProtectionDomain().getCodeSource().getLocation().getPath();
        int failed = ToolProvider.getSystemJavaCompiler().run(null, null, null, "-proc:none", "-cp", classes, "-d", out.toString(), file.toString());
        try (URLClassLoader loader = new URLClassLoader(new URL[] {out.toUri().toURL()})) {
            return failed != 0 ? new int[] {0, 1} : (int[]) loader.loadClass("Examples").getMethod("run").invoke(null);
        } finally {
            for (String name : List.of("Examples.java", "Examples.class")) {
                Files.deleteIfExists(out.resolve(name));
            }
            Files.deleteIfExists(out);
        }
    }

    /** The methods of the class that README.md doesn't name. */
    private static List<String> unnamed(String readme) {
        List<String> missing = new ArrayList<>();
        for (java.lang.reflect.Method m : ByThePound.class.getDeclaredMethods()) {
            boolean isOpen = java.lang.reflect.Modifier.isPublic(m.getModifiers());
            if (isOpen && !readme.contains("`" + m.getName() + "`")) {
                missing.add(m.getName());
            }
        }
        return missing;
    }

    public static void main(String[] args) throws IOException, ReflectiveOperationException {
        String readme = Files.readString(Path.of("README.md"));
        int[] told = run(program(examples(readme)));
        List<String> missing = unnamed(readme);
        boolean fine = told[0] > 30 && told[1] == 0 && missing.isEmpty();
        System.out.println(fine ? "README.md says what is: " + told[0] + " calls" : "README.md is wrong; calls: " + told[0] + ", without a word: " + missing);
        if (!fine) {
            System.exit(1);
        }
    }
}
