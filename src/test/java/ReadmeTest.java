import java.io.File;
import java.lang.reflect.InvocationTargetException;
import java.lang.reflect.Method;
import java.lang.reflect.Modifier;
import java.nio.file.Files;
import java.nio.file.Path;
import java.util.Map;
import java.util.Set;
import java.util.TreeMap;
import java.util.TreeSet;
import java.util.regex.Matcher;
import java.util.regex.Pattern;

/** Runs the calls that README.md shows, and compares its tables with the public face and with the tests. */
public final class ReadmeTest {
    private static final String MAKING = "DuctRake duct = new DuctRake();";
    private static final Pattern CALL = Pattern.compile("duct\\.(\\w+)\\((.*?)\\); *// (\\S+?)(: .*)?");
    private static final Pattern CALL_ROW = Pattern.compile("\\| `(\\w+)\\((.*?)\\)`( \\*)? \\|.*\\| ([^|]+) \\|");
    private static final Pattern SETTING_ROW = Pattern.compile("\\| (\\d) \\| [^|]+ \\| 0 to (\\d+) \\| (\\d+) \\|");
    private static final Pattern TEST_ROW = Pattern.compile("\\| `(\\w+Test)` \\|.*");
    private static final int MOST_CALLS = 512;

    private static final Map<String, Method> FACE = new TreeMap<>();
    private static final Set<String> SHOWN = new TreeSet<>();
    private static final Set<String> ROWS = new TreeSet<>();
    private static final Set<String> TESTS = new TreeSet<>();
    private static DuctRake duct;
    private static int calls;
    private static int settings;

    public static void main(String[] args) throws Exception {
        for (Method m : DuctRake.class.getDeclaredMethods()) {
            if (Modifier.isPublic(m.getModifiers())) {
                FACE.put(m.getName(), m);
            }
        }
        boolean inCode = false;
        for (String line : Files.readAllLines(Path.of("README.md"))) {
            if (line.startsWith("```")) {
                inCode = line.equals("```java");
            } else if (inCode) {
                runLine(line);
            } else {
                compareRow(line);
            }
        }
        Check.holds("shown are the calls " + SHOWN, SHOWN.equals(FACE.keySet()));
        Check.holds("rows have the calls " + ROWS, ROWS.equals(FACE.keySet()));
        Check.same("rows of settings", settings, 5);
        Check.holds("rows have the tests " + TESTS, TESTS.equals(testFiles()));
        Check.end();
    }

    private static void runLine(String line) throws Exception {
        if (line.equals(MAKING)) {
            duct = new DuctRake();
            calls = 0;
            return;
        }
        Matcher m = CALL.matcher(line);
        boolean isCall = duct != null && m.matches() && FACE.containsKey(m.group(1));
        Check.holds("this is no call with an answer: " + line, isCall);
        if (isCall) {
            SHOWN.add(m.group(1));
            runCall(line, FACE.get(m.group(1)), m.group(2), m.group(3));
        }
    }

    private static void runCall(String line, Method call, String arguments, String due) throws Exception {
        long before = duct.digest();
        String got = answer(call, arguments);
        Check.holds(line + " answered " + got, got.equals(due));
        if (got.endsWith("Exception")) {
            Check.same("digest after " + line, duct.digest(), before);
        }
        calls += 3;
        Check.holds("too many calls for one object", calls <= MOST_CALLS);
    }

    private static String answer(Method call, String arguments) throws Exception {
        String[] texts = arguments.isEmpty() ? new String[0] : arguments.split(", ");
        Object[] values = new Object[texts.length];
        for (int i = 0; i < texts.length; i++) {
            values[i] = valueOf(texts[i]);
        }
        if (values.length != call.getParameterCount()) {
            return "nothing: the arguments are too few or too many";
        }
        try {
            Object value = call.invoke(duct, values);
            return value.equals(DuctRake.NONE) ? "NONE" : value.toString();
        } catch (InvocationTargetException e) {
            return e.getCause().getClass().getSimpleName();
        }
    }

    /** A number, or a character in quotes, which may be "," itself. */
    private static int valueOf(String text) {
        boolean isCharacter = text.length() == 3 && text.charAt(0) == '\'' && text.charAt(2) == '\'';
        return isCharacter ? text.charAt(1) : Integer.parseInt(text);
    }

    private static void compareRow(String line) {
        Matcher call = CALL_ROW.matcher(line);
        if (call.matches()) {
            compareCall(call);
        }
        Matcher setting = SETTING_ROW.matcher(line);
        if (setting.matches()) {
            compareSetting(setting);
        }
        Matcher test = TEST_ROW.matcher(line);
        if (test.matches()) {
            Check.holds("a second row: " + line, TESTS.add(test.group(1)));
        }
    }

    private static void compareCall(Matcher row) {
        String name = row.group(1);
        Check.holds("a second row of " + name, ROWS.add(name));
        Method call = FACE.get(name);
        if (call == null) {
            return;
        }
        int arguments = row.group(2).isEmpty() ? 0 : row.group(2).split(", ").length;
        Check.same("arguments of " + name, arguments, call.getParameterCount());
        StringBuilder thrown = new StringBuilder();
        for (Class<?> type : call.getExceptionTypes()) {
            thrown.append(thrown.length() == 0 ? "`" : ", `").append(type.getSimpleName()).append('`');
        }
        String due = thrown.length() == 0 ? "none" : thrown.toString();
        Check.holds(name + " throws " + due, row.group(4).equals(due));
        Check.holds(name + " is undoable, or is not", isUndoable(name) == (row.group(3) != null));
    }

    private static boolean isUndoable(String name) {
        return Set.of("rake", "radius", "block", "leak", "clean", "test", "read", "drop", "set", "load", "goBack")
            .contains(name);
    }

    private static void compareSetting(Matcher row) {
        int setting = Integer.parseInt(row.group(1));
        int most = Integer.parseInt(row.group(2));
        DuctRake x = new DuctRake();
        Check.same("the row of the setting", setting, settings);
        Check.same("setting " + setting + " at first", x.setting(setting), Integer.parseInt(row.group(3)));
        x.set(setting, most);
        Check.same("setting " + setting + " at most", x.setting(setting), most);
        Check.throwsOnly("above setting " + setting, IllegalArgumentException.class, () -> x.set(setting, most + 1));
        settings++;
    }

    private static Set<String> testFiles() {
        Set<String> names = new TreeSet<>();
        String[] files = new File("src/test/java").list();
        for (String file : files == null ? new String[0] : files) {
            if (file.endsWith("Test.java")) {
                names.add(file.substring(0, file.length() - ".java".length()));
            }
        }
        return names;
    }

    private ReadmeTest() {
    }
}
