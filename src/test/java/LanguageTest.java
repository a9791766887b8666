import java.lang.reflect.Field;
import java.lang.reflect.Method;
import java.lang.reflect.Modifier;
import java.nio.file.Files;
import java.nio.file.Path;
import java.util.ArrayList;
import java.util.List;
import java.util.TreeSet;
import java.util.regex.Pattern;

/** The face of the document and the rules of LANGUAGE.md, as far as they can be looked up. */
public final class LanguageTest {
    public static void main(String[] args) throws Exception {
        face();
        words();
        methods();
        Checks.close();
    }

    private static void face() throws Exception {
        String doc = Files.readString(Path.of("../shared/DOC.md"));
        TreeSet<String> due = new TreeSet<>();
        var row = Pattern.compile("^    public (int|long|boolean) (\\w+)\\(([^)]*)\\);", Pattern.MULTILINE).matcher(doc);
        while (row.find()) {
            String types = row.group(3).replaceAll(" \\w+(,|$)", "$1").replace(" ", "");
            due.add(row.group(1) + " " + row.group(2) + "(" + types + ")");
        }
        Checks.is("methods in the document", due.size(), 45);
        TreeSet<String> has = new TreeSet<>();
        TreeSet<String> hidden = new TreeSet<>();
        for (Method m : HookSwings.class.getDeclaredMethods()) {
            List<String> types = new ArrayList<>();
            for (Class<?> t : m.getParameterTypes()) {
                types.add(t.getName());
            }
            if (Modifier.isPrivate(m.getModifiers())) {
                hidden.add(m.getName());
            } else {
                has.add(m.getReturnType().getName() + " " + m.getName() + "(" + String.join(",", types) + ")");
                Checks.is(m + " is public alone", m.getModifiers(), Modifier.PUBLIC);
            }
        }
        Checks.same("the face", has.toString(), due.toString());
        for (String name : has) {
            String bare = name.replaceAll(".* (\\w+)\\(.*", "$1");
            Checks.is("a private method named " + bare, hidden.contains(bare), false);
        }
        for (Field f : HookSwings.class.getDeclaredFields()) {
            boolean constant = f.getName().equals("NONE");
            Checks.is("public " + f.getName(), Modifier.isPublic(f.getModifiers()), constant);
            Checks.is("private " + f.getName(), Modifier.isPrivate(f.getModifiers()), !constant);
        }
        Checks.is("constructors", HookSwings.class.getDeclaredConstructors().length, 1);
        Checks.is("final", Modifier.isFinal(HookSwings.class.getModifiers()), true);
        for (Class<?> c : HookSwings.class.getDeclaredClasses()) {
            Checks.is(c.getName() + " is static", Modifier.isStatic(c.getModifiers()), true);
            for (Field f : c.getDeclaredFields()) {
                boolean loose = Modifier.isStatic(f.getModifiers()) && !Modifier.isFinal(f.getModifiers());
                Checks.is("loose static " + f, loose, false);
            }
        }
    }

    private static void words() throws Exception {
        String source = Files.readString(Path.of("src/main/java/HookSwings.java"))
            .replaceAll("(?s)/\\*.*?\\*/", "").replaceAll("//[^\n]*", "").replaceAll("\"[^\"]*\"", "\"\"");
        for (String word : List.of("throw", "throws", "try", "catch", "finally", "synchronized", "assert", "import",
                "package", "Thread", "Random", "currentTimeMillis", "nanoTime", "File", "Exception", "Object", "goto",
                "hashCode", "toString", "enum", "protected", "native", "volatile", "double", "float")) {
            Checks.is("the word " + word, Pattern.compile("\\b" + word + "\\b").matcher(source).find(), false);
        }
        Checks.is("lambdas", source.contains("->"), false);
        Checks.is("method references", source.contains("::"), false);
        Checks.is("Exact", source.contains("Exact"), false);
        Checks.is("signs above 127", source.chars().anyMatch(c -> c > 127), false);
        Checks.is("objects made outside constructors and fields", made(source), 0);
    }

    /** How many lines make something, but fields and what stands in a constructor. */
    private static long made(String source) {
        String close = null;
        long many = 0;
        for (String line : source.split("\n")) {
            if (line.matches("\\s*(public )?[A-Z]\\w*\\([^)]*\\) \\{")) {
                close = line.replaceAll("\\S.*", "}");
            } else if (line.equals(close)) {
                close = null;
            }
            boolean field = line.matches("        (private )?(static )?final .*");
            many += line.contains("new ") && close == null && !field ? 1 : 0;
        }
        return many;
    }

    private static void methods() throws Exception {
        List<String> lines = Files.readAllLines(Path.of("src/main/java/HookSwings.java"));
        int from = -1;
        String indent = "";
        for (int i = 0; i < lines.size(); i++) {
            String line = lines.get(i);
            if (from < 0 && line.matches("\\s+[\\w ]+(\\[\\])? ?\\w+\\([^)]*\\) \\{") && !line.matches("\\s+(if|for|while|switch|return|else)\\b.*")) {
                from = i;
                indent = line.replaceAll("\\S.*", "");
                int parameters = line.contains("()") ? 0 : line.split(",").length;
                Checks.is("parameters of " + line.trim(), parameters <= 7, true);
            } else if (from >= 0 && line.equals(indent + "}")) {
                Checks.is("lines of " + lines.get(from).trim(), i - from < 60, true);
                from = -1;
            }
        }
    }
}
