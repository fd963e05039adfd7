import java.io.IOException;
import java.io.PrintWriter;
import java.io.StringWriter;
import java.lang.reflect.Field;
import java.lang.reflect.Modifier;
import java.nio.file.Files;
import java.nio.file.Path;
import java.util.ArrayList;
import java.util.List;
import java.util.Map;
import java.util.Set;
import java.util.TreeMap;
import java.util.TreeSet;
import java.util.regex.Matcher;
import java.util.regex.Pattern;
import java.util.spi.ToolProvider;

/** The rules of LANGUAGE.md that can be seen from the text and the compiled classes; run from the project's root. */
public final class LanguageTest {
    private static final String[] NOT_THERE = {
        "\\b(throw|throws|try|catch|finally|synchronized|assert|import|package|static\\s*\\{|native|volatile)\\b",
        "->", "::", "@", "\\bSystem\\.(?!arraycopy\\b)", "\\w+Exact\\b", "\\b(protected|super)\\b",
        "\\b(Object|Class|Thread|Random|Runtime|Exception|Error)\\b", "\\.(hashCode|toString|getClass)\\b",
        "\\b(float|double|var|goto|yield)\\b", "\\[\\]\\s*\\[\\]", "\\bclass\\s+\\w+\\s+extends\\b",
        "[^\\x00-\\x7f]", "\\bnull\\b", "\\b(ArrayList|List|Iterator|StringBuilder|Arrays)\\b"
    };

    private static final Set<String> LIBRARY = Set.of("java/lang/Object.<init>", "java/lang/System.arraycopy",
            "java/lang/Math.max", "java/lang/Math.min", "java/lang/Integer.bitCount", "java/lang/String.length",
            "java/lang/String.charAt");
    private static final Set<String> TYPES = Set.of("int", "long", "byte", "boolean", "String", "int[]", "byte[]");
    private static final Pattern HEAD = Pattern.compile("  (?:[\\w$.\\[\\]]+ )*([\\w$]+)\\(.*\\);");
    private static final Pattern CALL = Pattern.compile("invoke\\w+ .*// Method (?:([\\w$/]+)\\.)?\"?([\\w$<>]+)\"?:.*");
    private static final int DEEPEST = 8;

    private static final Due due = new Due("LanguageTest");
    /** Whom each method calls, by "class.method". */
    private static final Map<String, Set<String>> calls = new TreeMap<>();

    public static void main(String[] args) throws IOException {
        text();
        fields();
        compiled();
        for (String method : calls.keySet()) {
            due.is(method + " calls too deep", depthOf(method, 1) > DEEPEST ? 1 : 0, 0);
        }
        due.close();
    }

    private static void text() throws IOException {
        String source = Files.readString(Path.of("src/main/java/SpoonHates.java"));
        String code = source.replaceAll("(?s)/\\*.*?\\*/", "").replaceAll("//[^\n]*", "");
        for (String rule : NOT_THERE) {
            Matcher found = Pattern.compile(rule).matcher(code);
            due.is("a look for " + rule, found.find() ? 1 : 0, 0);
        }
        Matcher method = Pattern.compile("(?m)^( {4}| {8})\\w[^;={}\n]*\\(([^)]*)\\) \\{\n(?s:.*?)^\\1\\}").matcher(code);
        int methods = 0;
        while (method.find()) {
            methods++;
            String head = method.group().lines().findFirst().orElse("").trim();
            due.is(head + " is short", method.group().lines().count() <= 60 ? 1 : 0, 1);
            due.is(head + " takes seven at most", method.group(2).split(",").length <= 7 ? 1 : 0, 1);
        }
        due.is("many methods are looked at", methods > 100 ? 1 : 0, 1);
        due.is("twelve classes at most", Pattern.compile("\\bclass\\b").matcher(code).results().count() <= 12 ? 1 : 0, 1);
    }

    private static List<Class<?>> classes() {
        List<Class<?>> all = new ArrayList<>(List.of(SpoonHates.class.getDeclaredClasses()));
        all.add(SpoonHates.class);
        return all;
    }

    private static void fields() {
        for (Class<?> owner : classes()) {
            int held = 0;
            for (Field f : owner.getDeclaredFields()) {
                boolean isStatic = Modifier.isStatic(f.getModifiers());
                held += isStatic ? 0 : 1;
                String type = f.getType().getSimpleName();
                boolean isOwn = f.getType().getName().replace("[L", "").startsWith("SpoonHates$");
                due.is(f + " is of a type that may be", TYPES.contains(type) || isOwn && !isStatic ? 1 : 0, 1);
                due.is(f + ": static, not final", isStatic && !Modifier.isFinal(f.getModifiers()) ? 1 : 0, 0);
            }
            due.is(owner + " has twenty fields at most", held <= 20 ? 1 : 0, 1);
        }
    }

    /** What javac made of it: whom it calls, and that objects are made by constructors alone. */
    private static void compiled() {
        StringWriter told = new StringWriter();
        List<String> asked = new ArrayList<>(List.of("-p", "-c", "-cp", System.getProperty("java.class.path")));
        classes().forEach(owner -> asked.add(owner.getName()));
        int end = ToolProvider.findFirst("javap").orElseThrow().run(new PrintWriter(told), new PrintWriter(told),
                asked.toArray(new String[0]));
        due.is("javap", end, 0);
        String owner = "";
        String method = "";
        for (String line : told.toString().lines().toList()) {
            Matcher head = HEAD.matcher(line);
            if (line.endsWith(" {")) {
                owner = line.replaceAll(".*class ([\\w$]+).*", "$1");
            } else if (head.matches()) {
                method = owner + "." + (head.group(1).equals(owner) ? "<init>" : head.group(1));
                due.is(method + " is there once", calls.put(method, new TreeSet<>()) == null ? 1 : 0, 1);
            } else {
                instruction(owner, method, line);
            }
        }
        due.is("many methods are compiled", calls.size() > 100 ? 1 : 0, 1);
    }

    private static void instruction(String owner, String method, String line) {
        Matcher call = CALL.matcher(line);
        if (call.find()) {
            String called = (call.group(1) == null ? owner : call.group(1)) + "." + call.group(2);
            calls.get(method).add(called);
            boolean isOwn = called.startsWith("SpoonHates");
            due.is(method + " calls " + called, isOwn || LIBRARY.contains(called) ? 1 : 0, 1);
        }
        boolean isMade = line.matches(" +\\d+: (new|newarray|anewarray) .*");
        due.is(method + " makes an object: " + line, isMade && !method.endsWith(".<init>") ? 1 : 0, 0);
        boolean isRefused = line.matches(" +\\d+: (athrow|checkcast|instanceof|invokedynamic|multianewarray|monitor).*");
        due.is(method + " has " + line, isRefused ? 1 : 0, 0);
    }

    /** Ends for any calls: what goes deeper than may be is not followed. */
    private static int depthOf(String method, int depth) {
        int deepest = depth;
        for (String called : calls.getOrDefault(method, Set.of())) {
            if (depth <= DEEPEST && calls.containsKey(called)) {
                deepest = Math.max(deepest, depthOf(called, depth + 1));
            }
        }
        return deepest;
    }
}
