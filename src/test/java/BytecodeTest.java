import java.io.File;
import java.io.PrintWriter;
import java.io.StringWriter;
import java.util.ArrayList;
import java.util.List;
import java.util.Map;
import java.util.Set;
import java.util.TreeMap;
import java.util.TreeSet;
import java.util.regex.Matcher;
import java.util.regex.Pattern;
import java.util.spi.ToolProvider;

/** Rules of LANGUAGE.md that are seen best in what javac makes of the class. */
public final class BytecodeTest {
    // What the class uses of the library; rule 4 would let it use more.
    private static final Set<String> LIBRARY = Set.of("java/lang/Object.<init>", "java/lang/String.length",
        "java/lang/String.charAt", "java/lang/Integer.bitCount", "java/lang/Integer.compare", "java/lang/Math.abs",
        "java/lang/Math.max", "java/lang/Math.min", "java/lang/System.arraycopy");
    // Each of these carries its depth, or counts what is open; whatever else calls itself must be looked at first.
    private static final Set<String> GUARDED = Set.of("HookSwings$Reader", "HookSwings$Search", "HookSwings$Plan");
    private static final int DEEPEST = 8;

    private static final Pattern HEAD = Pattern.compile("  (?:[\\w.\\[\\]$]+ )*([\\w.$]+)\\(.*\\);");
    private static final Pattern CALL = Pattern.compile("// (?:Interface)?Method (?:([\\w/$]+)\\.)?\"?([\\w<>]+)\"?:.*");

    private final Map<String, Set<String>> calls = new TreeMap<>();
    private final Map<String, Set<String>> reach = new TreeMap<>();
    private final Set<String> library = new TreeSet<>();

    public static void main(String[] args) throws Exception {
        BytecodeTest test = new BytecodeTest();
        var home = new File(HookSwings.class.getProtectionDomain().getCodeSource().getLocation().toURI());
        int classes = 0;
        for (String file : home.list()) {
            if (file.matches("HookSwings(\\$\\w+)?\\.class")) {
                classes++;
                test.read(file.replace(".class", ""), shown(new File(home, file)));
            }
        }
        Checks.is("classes, of some twelve: " + classes, classes >= 2 && classes <= 12, true);
        test.names();
        test.depth();
        Checks.close();
    }

    private static String shown(File file) {
        StringWriter out = new StringWriter();
        ToolProvider javap = ToolProvider.findFirst("javap").orElseThrow();
        javap.run(new PrintWriter(out), new PrintWriter(out), "-p", "-c", file.getPath());
        return out.toString();
    }

    private void read(String name, String text) {
        String method = name;
        int fields = 0;
        for (String line : text.split("\n")) {
            Matcher head = HEAD.matcher(line);
            if (head.matches()) {
                boolean constructor = head.group(1).replace('.', '$').equals(name);
                method = name + "." + (constructor ? "<init>" : head.group(1));
                calls.putIfAbsent(method, new TreeSet<>());
            } else if (line.equals("  static {};")) {
                method = name + ".<clinit>";
            } else if (line.matches("  \\S[^(]*;")) {
                fields += line.contains(" static ") ? 0 : 1;
            }
            instruction(name, method, line);
        }
        Checks.is("fields of " + name + ", of some twenty: " + fields, fields <= 20, true);
    }

    private void instruction(String name, String method, String line) {
        String deed = line.replaceAll("^ *\\d+: (\\w+).*", "$1");
        boolean barred = Set.of("athrow", "checkcast", "invokedynamic", "monitorenter").contains(deed);
        Checks.is(method + ": " + line.trim(), barred || line.contains("Exception table"), false);
        boolean makes = Set.of("new", "newarray", "anewarray", "multianewarray").contains(deed);
        Checks.is(method + " makes something: " + line.trim(), makes && !method.endsWith("init>"), false);
        Matcher call = CALL.matcher(line.replaceAll("^.*(// )", "$1"));
        if (call.matches()) {
            String owner = call.group(1) == null ? name : call.group(1);
            String called = owner + "." + call.group(2);
            if (owner.startsWith("HookSwings")) {
                calls.computeIfAbsent(method, m -> new TreeSet<>()).add(called);
            } else {
                library.add(called);
            }
        }
    }

    private void names() {
        for (String called : library) {
            Checks.is("the library's " + called, LIBRARY.contains(called), true);
        }
        Set<String> face = new TreeSet<>();
        for (var method : HookSwings.class.getDeclaredMethods()) {
            if (java.lang.reflect.Modifier.isPublic(method.getModifiers())) {
                face.add(method.getName());
            }
        }
        for (String method : calls.keySet()) {
            boolean inside = method.startsWith("HookSwings$");
            Checks.is(method + " bears a name of the face", inside && face.contains(method.replaceAll(".*\\.", "")), false);
        }
    }

    private void depth() {
        for (String method : calls.keySet()) {
            reach.put(method, new TreeSet<>());
            collect(method, reach.get(method));
        }
        for (String method : calls.keySet()) {
            boolean again = reach.get(method).contains(method);
            Checks.is(method + " calls itself", again && !GUARDED.contains(method.replaceAll("\\..*", "")), false);
            List<String> way = deepest(method);
            Checks.is("calls that stand open: " + way, way.size() <= DEEPEST, true);
        }
    }

    private void collect(String method, Set<String> into) {
        for (String called : calls.getOrDefault(method, Set.of())) {
            if (into.add(called)) {
                collect(called, into);
            }
        }
    }

    /** The longest way of calls from a method on; those that call one another count as one. */
    private List<String> deepest(String method) {
        Set<String> circle = new TreeSet<>();
        for (String called : reach.get(method)) {
            if (reach.get(called).contains(method)) {
                circle.add(called);
            }
        }
        circle.add(method);
        List<String> longest = List.of();
        for (String member : circle) {
            for (String called : calls.get(member)) {
                List<String> way = circle.contains(called) ? List.of() : deepest(called);
                longest = way.size() > longest.size() ? way : longest;
            }
        }
        List<String> all = new ArrayList<>(List.of(method));
        all.addAll(longest);
        return all;
    }
}
