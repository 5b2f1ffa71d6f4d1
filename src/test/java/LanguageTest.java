import java.io.PrintWriter;
import java.io.StringWriter;
import java.lang.reflect.Constructor;
import java.lang.reflect.Field;
import java.lang.reflect.Member;
import java.lang.reflect.Method;
import java.lang.reflect.Modifier;
import java.nio.file.Files;
import java.nio.file.Path;
import java.util.ArrayList;
import java.util.Arrays;
import java.util.List;
import java.util.Map;
import java.util.Optional;
import java.util.Set;
import java.util.TreeMap;
import java.util.TreeSet;
import java.util.regex.Matcher;
import java.util.regex.Pattern;
import java.util.spi.ToolProvider;

/** The document's face, and those rules of LANGUAGE.md that can be looked at from outside. */
public final class LanguageTest {
    private static final String[] FACE = {
        "int setFormat(int,int,int,int)", "int setRegister(int,int)", "int setValue(int,int)", "int setMode(int)",
        "int setBits(int)", "int setSeed(int)", "int value(int)", "int formatOf(int)", "int operate(int,int,int,int)",
        "int type(int)", "int clear()", "int fault()", "int run()", "int stopped()", "int ifRun(int,int,int)",
        "int ensembleSum(int,int,int)", "int ensembleSpread(int,int,int)", "int records()", "int numberOf(int)",
        "int operation(int)", "int result(int)", "int neighbor(int,boolean)", "int drawOf(int)", "int flags(int)",
        "long exactNumerator(int)", "long exactDenominator(int)", "int replay(int,int,int)", "long mean(int)",
        "long biasNumerator(int)", "long biasDenominator(int)", "long variance(int)", "long account(int)",
        "int clearAccount()", "int isValue(int,int)", "int next(int,int,boolean)", "int countValues(int)",
        "int between(int,int,int)", "int contains(int,int)", "int undo()", "int told(int)", "long digest()"
    };
    private static final String[] FORBIDDEN = {
        "\\bthrows?\\b", "\\btry\\b", "\\bcatch\\b", "\\bsynchronized\\b", "\\bassert\\b", "\\bimport\\b", "\\bpackage\\b",
        "\\bprotected\\b", "->", "::", "Exact\\b", "\\bstatic\\s*\\{", "\\bSystem\\.(?!arraycopy\\b)", "\\bObject\\b"
    };

    private static int wrong = 0;

    public static void main(String[] args) throws Exception {
        checkFace();
        checkMembers();
        checkSource(Files.readString(Path.of("src/main/java/StochasticBench.java")));
        checkDepth();
        System.out.println(wrong == 0 ? "LanguageTest: all rules are kept" : "LanguageTest: " + wrong + " rules broken");
        if (wrong != 0) {
            System.exit(1);
        }
    }

    private static void must(boolean holds, String rule) {
        if (!holds) {
            wrong++;
            System.out.println("broken: " + rule);
        }
    }

    private static void checkFace() {
        Class<?> c = StochasticBench.class;
        Set<String> found = new TreeSet<>();
        for (Method m : c.getDeclaredMethods()) {
            if (Modifier.isPublic(m.getModifiers())) {
                StringBuilder types = new StringBuilder();
                for (Class<?> type : m.getParameterTypes()) {
                    types.append(types.length() == 0 ? "" : ",").append(type.getName());
                }
                found.add(m.getReturnType().getName() + " " + m.getName() + "(" + types + ")");
            }
        }
        must(found.equals(new TreeSet<>(Arrays.asList(FACE))), "the public methods are the document's: " + found);
        must(Modifier.isFinal(c.getModifiers()) && Modifier.isPublic(c.getModifiers()), "the class is public and final");
        Set<String> constants = new TreeSet<>();
        for (Field f : c.getDeclaredFields()) {
            if (Modifier.isPublic(f.getModifiers())) {
                constants.add(f.getName());
            }
        }
        must(constants.equals(Set.of("BAD", "STATE", "FULL", "NONE")), "the public constants: " + constants);
        must(c.getDeclaredConstructors().length == 1 && c.getConstructors().length == 1, "one public constructor");
    }

    private static void checkMembers() {
        Set<String> publicNames = new TreeSet<>();
        List<Member> outer = new ArrayList<>(Arrays.asList(StochasticBench.class.getDeclaredMethods()));
        outer.addAll(Arrays.asList(StochasticBench.class.getDeclaredFields()));
        for (Member m : outer) {
            boolean isPublic = Modifier.isPublic(m.getModifiers());
            must(isPublic || Modifier.isPrivate(m.getModifiers()), m.getName() + " is public or private");
            if (isPublic) {
                publicNames.add(m.getName());
            }
        }
        List<Class<?>> all = new ArrayList<>(Arrays.asList(StochasticBench.class.getDeclaredClasses()));
        must(all.size() <= 12, "at most some twelve classes");
        for (Class<?> c : all) {
            must(Modifier.isStatic(c.getModifiers()), c.getName() + " is static");
            must(c.getDeclaredClasses().length == 0, c.getName() + " has no class in it");
        }
        all.add(StochasticBench.class);
        for (Class<?> c : all) {
            checkFields(c);
            for (Method m : c.getDeclaredMethods()) {
                must(m.getParameterCount() <= 7, m + " has at most seven parameters");
                must(Modifier.isPublic(m.getModifiers()) || !publicNames.contains(m.getName()), m + " has a name of its own");
            }
            for (Constructor<?> k : c.getDeclaredConstructors()) {
                must(k.getParameterCount() <= 7, k + " has at most seven parameters");
            }
        }
    }

    private static void checkFields(Class<?> c) {
        int fields = 0;
        for (Field f : c.getDeclaredFields()) {
            boolean isStatic = Modifier.isStatic(f.getModifiers());
            must(!isStatic || Modifier.isFinal(f.getModifiers()), f + " is final");
            fields += isStatic ? 0 : 1;
        }
        must(fields <= 20, c.getName() + " has at most some twenty fields");
    }

    private static void checkSource(String source) {
        must(source.chars().allMatch(c -> c == '\n' || c >= 32 && c < 127), "the source has plain signs alone");
        String code = source.replaceAll("(?s)/\\*.*?\\*/", "").replaceAll("//[^\n]*", "").replaceAll("'[^']'", "0");
        for (String pattern : FORBIDDEN) {
            Matcher m = Pattern.compile(pattern).matcher(code);
            must(!m.find(), "no " + pattern);
        }
        int start = -1;
        String[] lines = code.split("\n");
        for (int i = 0; i < lines.length; i++) {
            if (lines[i].matches(" {4}( {4})?[a-z].*\\) \\{")) {
                start = i;
            }
            if (start >= 0 && lines[i].matches(" {4}( {4})?\\}") && indent(lines[i]) == indent(lines[start])) {
                must(i - start < 60, "a method of at most some sixty lines at " + lines[start].trim());
                start = -1;
            }
            // What a run makes is counted, so only constructors make objects.
            boolean isField = lines[i].matches(" +(private )?final .*= new .*");
            boolean isRow = lines[i].matches(" +(formats|ring|settings|ledgers)\\[\\w\\] = new \\w+\\(\\);");
            must(!lines[i].contains("new ") || isField || isRow, "objects are made by constructors alone: " + lines[i].trim());
        }
    }

    private static int indent(String line) {
        return line.length() - line.stripLeading().length();
    }

    /** No recursion, and calls go at most eight deep, the public method and the library's counted. */
    private static void checkDepth() {
        Optional<ToolProvider> javap = ToolProvider.findFirst("javap");
        if (javap.isEmpty()) {
            System.out.println("LanguageTest: there is no javap here, so the depth of calls is not looked at");
            return;
        }
        Map<String, Set<String>> calls = new TreeMap<>();
        for (Class<?> c : StochasticBench.class.getDeclaredClasses()) {
            readCalls(javap.get(), c.getName(), calls);
        }
        readCalls(javap.get(), "StochasticBench", calls);
        must(calls.containsKey("StochasticBench.digest"), "the calls are found");
        for (String method : calls.keySet()) {
            int depth = depth(method, calls, new ArrayList<>());
            must(depth <= 8, method + " goes at most eight deep, not " + depth);
        }
    }

    private static void readCalls(ToolProvider javap, String name, Map<String, Set<String>> calls) {
        StringWriter text = new StringWriter();
        javap.run(new PrintWriter(text), new PrintWriter(text), "-c", "-p", "-classpath", System.getProperty("java.class.path"), name);
        Pattern header = Pattern.compile("  \\S.*?([\\w$]+)\\(.*\\);|  ([\\w$]+)\\(\\);");
        Pattern call = Pattern.compile(".*: invoke.*// (?:Interface)?Method (?:([\\w$/]+)\\.)?\"?([\\w$<>]+)\"?:.*");
        Set<String> found = null;
        for (String line : text.toString().split("\n")) {
            Matcher h = header.matcher(line);
            Matcher m = call.matcher(line);
            if (h.matches()) {
                String method = h.group(1) != null ? h.group(1) : h.group(2);
                found = calls.computeIfAbsent(name + "." + (method.equals(name) ? "<init>" : method), k -> new TreeSet<>());
            } else if (m.matches() && found != null) {
                found.add((m.group(1) == null ? name : m.group(1)) + "." + m.group(2));
            }
        }
    }

    private static int depth(String method, Map<String, Set<String>> calls, List<String> open) {
        if (open.contains(method)) {
            must(false, "no recursion: " + open + " and again " + method);
            return 0;
        }
        open.add(method);
        int deepest = 0;
        for (String next : calls.getOrDefault(method, Set.of())) {
            deepest = Math.max(deepest, depth(next, calls, open));
        }
        open.remove(open.size() - 1);
        return deepest + 1;
    }
}
