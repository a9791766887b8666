import java.lang.reflect.Method;
import java.nio.file.Files;
import java.nio.file.Path;
import java.util.HashMap;
import java.util.List;
import java.util.Map;
import java.util.regex.Matcher;
import java.util.regex.Pattern;

/** Each call in README.md that has its answer behind it is made, and must answer so. */
public final class ReadmeTest {
    private static final Pattern CALL = Pattern.compile("x\\.(\\w+)\\((.*)\\);\\s*// (-?\\d+|true|false)\\b.*");
    private static final Pattern TAPE = Pattern.compile("tape\\(x, \"(.*)\"\\);");

    private static final Map<String, Method> FACE = new HashMap<>();
    private static int calls = 0;

    public static void main(String[] args) throws Exception {
        for (Method m : HookSwings.class.getMethods()) {
            FACE.put(m.getName(), m);
        }
        HookSwings x = null;
        for (String line : Files.readAllLines(Path.of("README.md"))) {
            if (line.equals("HookSwings x = new HookSwings();")) {
                x = new HookSwings();
            } else if (x != null) {
                obey(x, line);
            }
        }
        Checks.is("README.md shows a good many calls: " + calls, calls >= 30, true);
        Checks.close();
    }

    private static void obey(HookSwings x, String line) throws Exception {
        Matcher tape = TAPE.matcher(line);
        if (tape.matches()) {
            Checks.tape(x, tape.group(1));
        }
        Matcher call = CALL.matcher(line);
        Checks.is("a call without its answer: " + line, line.startsWith("x.") && !call.matches(), false);
        if (call.matches()) {
            calls++;
            Checks.same(line, answer(x, call.group(1), call.group(2)), call.group(3));
        }
    }

    private static String answer(HookSwings x, String name, String told) throws Exception {
        Method method = FACE.get(name);
        if (method == null) {
            return "no such call";
        }
        List<String> words = told.isEmpty() ? List.of() : List.of(told.split(", "));
        Object[] values = new Object[words.size()];
        for (int i = 0; i < values.length; i++) {
            String word = words.get(i);
            values[i] = word.matches("true|false") ? (Object) Boolean.valueOf(word) : Integer.valueOf(word);
        }
        return String.valueOf(method.invoke(x, values));
    }
}
