import com.sun.source.tree.ArrayAccessTree;
import com.sun.source.tree.CompilationUnitTree;
import com.sun.source.tree.LiteralTree;
import com.sun.source.tree.MethodInvocationTree;
import com.sun.source.tree.MethodTree;
import com.sun.source.tree.NewClassTree;
import com.sun.source.util.JavacTask;
import com.sun.source.util.TreePathScanner;
import com.sun.source.util.Trees;
import java.io.IOException;
import java.lang.reflect.Field;
import java.lang.reflect.Member;
import java.lang.reflect.Method;
import java.lang.reflect.Modifier;
import java.nio.file.Files;
import java.nio.file.Path;
import java.util.ArrayList;
import java.util.Arrays;
import java.util.List;
import java.util.Map;
import java.util.Set;
import java.util.TreeMap;
import java.util.TreeSet;
import java.util.regex.Matcher;
import java.util.regex.Pattern;
import javax.lang.model.element.Element;
import javax.tools.JavaCompiler;
import javax.tools.StandardJavaFileManager;
import javax.tools.ToolProvider;

/** Those rules of LANGUAGE.md that can be looked up in the compiled class and in its source. Run from the project's root. */
public final class RulesTests {
    private static final List<String> FACE = List.of(
        "int thing(int,int,int,int)", "int maker(int,int,int)", "int buyer(int,int,int,int)", "boolean house(int,int)",
        "int offer(int,int)", "int put(int,int,int,int)", "int drop(int)", "int feed(int,int,int,int,int)", "int end(int)",
        "int text()", "int fault(int)", "boolean by(int)", "int of(int,int)", "int worth(int,int)", "int likes(int)",
        "int year()", "int told(int,int)", "int judge()", "int best(int,int,int,int)", "int rounds()", "int never(int)",
        "int tied(int,int,int,int)", "int harm(int,int)", "int least()", "int changed(int,int)", "int where(int)",
        "int gift(int,int,int)", "int round(int)", "int net(int)", "int steady()", "int buyers(int,int)", "int image()",
        "int back()", "int about(int)");

    private static final List<String> WORDS_OUT = List.of("throw", "throws", "try", "catch", "synchronized", "assert", "var",
        "volatile", "transient", "native", "strictfp", "Random", "Thread", "File", "Object", "Throwable", "Exception",
        "double", "float", "package");

    private static int wrong = 0;

    private static void hold(String what, boolean so) {
        if (!so) {
            wrong++;
            System.out.println("broken: " + what);
        }
    }

    private static String signature(Method m) {
        List<String> types = new ArrayList<>();
        for (Class<?> type : m.getParameterTypes()) {
            types.add(type.getSimpleName());
        }
        return m.getReturnType().getSimpleName() + " " + m.getName() + "(" + String.join(",", types) + ")";
    }

    private static boolean isHidden(Member m) {
        return Modifier.isPrivate(m.getModifiers());
    }

    private static void face() {
        Class<?> c = ByThePound.class;
        hold("rule 1: the class is public and final", Modifier.isPublic(c.getModifiers()) && Modifier.isFinal(c.getModifiers()));
        Set<String> open = new TreeSet<>();
        for (Method m : c.getDeclaredMethods()) {
            if (!isHidden(m)) {
                open.add(signature(m));
                hold("rule 1: " + m + " is public and of the object", Modifier.isPublic(m.getModifiers()) && !Modifier.isStatic(m.getModifiers()));
            }
        }
        hold("rule 1: the methods are the document's: " + open, open.equals(new TreeSet<>(FACE)));
        hold("rule 1: one constructor", c.getDeclaredConstructors().length == 1 && c.getConstructors().length == 1);
        for (Field f : c.getDeclaredFields()) {
            hold("rule 1: field " + f.getName(), isHidden(f) || f.getName().equals("NONE") && Modifier.isPublic(f.getModifiers()));
        }
    }

    private static void classesInside() {
        List<Class<?>> all = new ArrayList<>(Arrays.asList(ByThePound.class.getDeclaredClasses()));
        hold("rule 11: at most twelve classes", all.size() + 1 <= 12);
        Set<String> names = new TreeSet<>();
        for (String s : FACE) {
            names.add(s.substring(s.indexOf(' ') + 1, s.indexOf('(')));
        }
        for (Class<?> c : all) {
            hold("rule 2: " + c + " is static and not public", Modifier.isStatic(c.getModifiers()) && !Modifier.isPublic(c.getModifiers()));
            for (Method m : c.getDeclaredMethods()) {
                hold("rule 1: the name of " + m, !names.contains(m.getName()));
            }
        }
        all.add(ByThePound.class);
        for (Class<?> c : all) {
            int fields = 0;
            for (Field f : c.getDeclaredFields()) {
                boolean isStatic = Modifier.isStatic(f.getModifiers());
                fields += isStatic ? 0 : 1;
                hold("rule 5: " + f + " is final", !isStatic || Modifier.isFinal(f.getModifiers()));
            }
            hold("rule 11: the fields of " + c, fields <= 20);
            for (Method m : c.getDeclaredMethods()) {
                hold("rule 11: the parameters of " + m, m.getParameterCount() <= 7);
                hold("rule 1: the name of " + m, !isHidden(m) || !names.contains(m.getName()));
            }
        }
    }

    private static void source() throws IOException {
        String s = Files.readString(Path.of("src/main/java/ByThePound.java"));
        for (int i = 0; i < s.length(); i++) {
            hold("rule 4: the sign at " + i, s.charAt(i) < 128);
        }
        String bare = s.replaceAll("(?s)/\\*.*?\\*/", "").replaceAll("//[^\n]*", "").replaceAll("\"(\\\\.|[^\"\\\\])*\"", "\"\"");
        for (String word : WORDS_OUT) {
            hold("rules 3, 6: the word " + word, !Pattern.compile("\\b" + word + "\\b").matcher(bare).find());
        }
        hold("rule 2: no lambda", !bare.contains("->"));
        hold("rule 2: no method reference", !bare.contains("::"));
        hold("rule 10: no joining of texts by +", !Pattern.compile("\"\"\\s*\\+|\\+\\s*\"\"").matcher(bare).find());
        Matcher imports = Pattern.compile("import ([^;]*);").matcher(bare);
        while (imports.find()) {
            hold("rule 4: import " + imports.group(1), List.of("java.util.Arrays", "java.util.ArrayList", "java.util.List").contains(imports.group(1)));
        }
        Matcher calls = Pattern.compile("\\b(Math|Arrays|System|Integer|Long)\\.(\\w+)").matcher(bare);
        while (calls.find()) {
            hold("rule 4: " + calls.group(), List.of("Math.max", "Math.min", "Arrays.fill", "System.arraycopy").contains(calls.group()));
        }
        methodsAreShort(bare);
    }

    private static void methodsAreShort(String bare) {
        int lines = 0;
        String head = "";
        for (String line : bare.split("\n")) {
            boolean opens = line.matches(" {4}( {4})?[a-z].*\\) \\{");
            if (opens) {
                head = line.trim();
                lines = 0;
            }
            lines++;
            if (line.matches(" {4}( {4})?\\}")) {
                hold("rule 11: at most sixty lines: " + head, head.isEmpty() || lines <= 60);
                head = "";
            }
        }
    }

    /** Which methods each method calls, as the compiler resolves them. */
    private static Map<String, Set<String>> callsOf(String file) throws IOException {
        JavaCompiler compiler = ToolProvider.getSystemJavaCompiler();
        StandardJavaFileManager files = compiler.getStandardFileManager(null, null, null);
        JavacTask task = (JavacTask) compiler.getTask(null, files, null, List.of("-proc:none"), null, files.getJavaFileObjects(file));
        Map<String, Set<String>> calls = new TreeMap<>();
        Iterable<? extends CompilationUnitTree> units = task.parse();
        task.analyze();
        Trees trees = Trees.instance(task);
        for (CompilationUnitTree unit : units) {
            new CallScanner(trees, calls).scan(unit, null);
        }
        return calls;
    }

    private static final class CallScanner extends TreePathScanner<Void, String> {
        private final Trees trees;
        private final Map<String, Set<String>> calls;

        CallScanner(Trees trees, Map<String, Set<String>> calls) {
            this.trees = trees;
            this.calls = calls;
        }

        @Override
        public Void visitMethod(MethodTree method, String in) {
            String name = nameHere();
            calls.computeIfAbsent(name, k -> new TreeSet<>());
            return super.visitMethod(method, name);
        }

        @Override
        public Void visitMethodInvocation(MethodInvocationTree call, String in) {
            note(in);
            return super.visitMethodInvocation(call, in);
        }

        @Override
        public Void visitNewClass(NewClassTree call, String in) {
            note(in);
            return super.visitNewClass(call, in);
        }

        private void note(String in) {
            if (in != null) {
                calls.get(in).add(nameHere());
            }
        }

        private String nameHere() {
            Element e = trees.getElement(getCurrentPath());
            return e.getEnclosingElement() + "." + e;
        }
    }

    /** All that the method may come to call; itself, if it is a recursion. */
    private static Set<String> reach(Map<String, Set<String>> calls, String method) {
        Set<String> all = new TreeSet<>();
        List<String> next = new ArrayList<>(calls.getOrDefault(method, Set.of()));
        while (!next.isEmpty()) {
            String called = next.remove(next.size() - 1);
            if (all.add(called)) {
                next.addAll(calls.getOrDefault(called, Set.of()));
            }
        }
        return all;
    }

    /** The longest chain of calls from a method on; those of one recursion count once. */
    private static int depth(Map<String, Set<String>> calls, Map<String, Set<String>> reaches, Map<String, Integer> known, String method) {
        Integer before = known.get(method);
        if (before != null) {
            return before;
        }
        int deepest = 0;
        for (String called : reaches.getOrDefault(method, Set.of())) {
            boolean isBelow = !reaches.getOrDefault(called, Set.of()).contains(method) && !called.equals(method);
            if (isBelow) {
                deepest = Math.max(deepest, depth(calls, reaches, known, called));
            }
        }
        known.put(method, deepest + 1);
        return deepest + 1;
    }

    private static void callsAreShallow() throws IOException {
        Map<String, Set<String>> calls = callsOf("src/main/java/ByThePound.java");
        Map<String, Set<String>> reaches = new TreeMap<>();
        for (String method : calls.keySet()) {
            reaches.put(method, reach(calls, method));
        }
        hold("the calls are seen", calls.size() > 100);
        Map<String, Integer> known = new TreeMap<>();
        for (String method : calls.keySet()) {
            int depth = depth(calls, reaches, known, method);
            hold("rule 11: calls at most eight deep: " + depth + " from " + method, depth <= 8);
        }
    }

    /** Rule 7: a method that uses a place of an array looks at a length (or has it looked at by isRow) itself. */
    private static void placesAreLookedAt() throws IOException {
        JavaCompiler compiler = ToolProvider.getSystemJavaCompiler();
        StandardJavaFileManager files = compiler.getStandardFileManager(null, null, null);
        JavacTask task = (JavacTask) compiler.getTask(null, files, null, List.of("-proc:none"), null,
            files.getJavaFileObjects("src/main/java/ByThePound.java"));
        PlaceScanner places = new PlaceScanner();
        for (CompilationUnitTree unit : task.parse()) {
            places.scan(unit, null);
        }
        hold("the places of arrays are seen", places.seen > 40);
        hold("rule 7: no length is looked at in " + places.unseen, places.unseen.isEmpty());
    }

    private static final class PlaceScanner extends TreePathScanner<Void, MethodTree> {
        /** A table is as long as its rows and columns, and these are what it looks at. */
        private static final Pattern LOOKS = Pattern.compile("\\.length\\b|\\bisRow\\(|column < columns");
        private final Set<String> unseen = new TreeSet<>();
        private int seen = 0;

        @Override
        public Void visitMethod(MethodTree method, MethodTree in) {
            return super.visitMethod(method, method);
        }

        @Override
        public Void visitArrayAccess(ArrayAccessTree place, MethodTree in) {
            seen++;
            boolean isConstant = place.getIndex() instanceof LiteralTree;
            if (!isConstant && (in == null || !LOOKS.matcher(in.getBody().toString()).find())) {
                unseen.add(place + " of " + (in == null ? "a field" : in.getName()));
            }
            return super.visitArrayAccess(place, in);
        }
    }

    public static void main(String[] args) throws IOException {
        face();
        classesInside();
        source();
        callsAreShallow();
        placesAreLookedAt();
        System.out.println(wrong == 0 ? "the rules that can be looked up hold" : wrong + " rules are broken");
        if (wrong != 0) {
            System.exit(1);
        }
    }
}
