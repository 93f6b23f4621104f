import java.lang.reflect.Constructor;
import java.lang.reflect.Field;
import java.lang.reflect.Method;
import java.lang.reflect.Modifier;
import java.nio.file.Files;
import java.nio.file.Path;
import java.util.Arrays;
import java.util.Set;
import java.util.TreeSet;
import java.util.regex.Matcher;
import java.util.regex.Pattern;

/** The face of the document, and those rules of LANGUAGE.md that can be seen from outside the code. */
public final class FaceTest {
    private static final String[] FACE = {"rake int -> int: IllegalArgumentException",
        "radius int -> int: IllegalArgumentException",
        "block int int -> int: IndexOutOfBoundsException IllegalArgumentException",
        "leak int int -> int: IndexOutOfBoundsException IllegalArgumentException",
        "clean int -> int: IndexOutOfBoundsException", "test int -> int: IndexOutOfBoundsException", "read -> int:",
        "drop int -> int: IndexOutOfBoundsException",
        "set int int -> int: IndexOutOfBoundsException IllegalArgumentException",
        "append int -> int: IllegalArgumentException IllegalStateException", "clearBuffer -> int:",
        "firstError -> int:", "load -> int: IllegalArgumentException", "keep int -> int: IllegalArgumentException",
        "goBack int -> int: IllegalArgumentException IllegalStateException", "undo -> int: IllegalStateException",
        "hole int int -> int: IndexOutOfBoundsException IllegalArgumentException",
        "reading int int -> int: IndexOutOfBoundsException IllegalArgumentException",
        "flow int -> int: IllegalArgumentException", "count int -> int: IllegalArgumentException",
        "setting int -> int: IndexOutOfBoundsException", "ifRight int -> int: IndexOutOfBoundsException",
        "worst -> int:", "ifRake int -> int: IllegalArgumentException",
        "fineRake int -> int: IllegalArgumentException", "evenness -> double:", "digest -> long:"};

    /** What the language leaves out, as it would stand in the source. */
    private static final String[] FORBIDDEN = {"import ", "package ", "->", "::", "Exact", "Double", "NaN", "System",
        "catch", "finally", "synchronized", "assert", "getMessage", "Throwable", "float ", "Object", "var "};

    public static void main(String[] args) throws Exception {
        members();
        constructorsAndFields();
        namesOfOtherMethods();
        source();
        Check.end();
    }

    private static void members() {
        Set<String> due = new TreeSet<>(Arrays.asList(FACE));
        Set<String> got = new TreeSet<>();
        for (Method m : DuctRake.class.getDeclaredMethods()) {
            if (Modifier.isPrivate(m.getModifiers()) || m.isSynthetic()) {
                continue;
            }
            Check.holds(m + " is public", Modifier.isPublic(m.getModifiers()));
            StringBuilder text = new StringBuilder(m.getName());
            for (Class<?> type : m.getParameterTypes()) {
                text.append(' ').append(type.getName());
            }
            text.append(" -> ").append(m.getReturnType().getName()).append(':');
            for (Class<?> type : m.getExceptionTypes()) {
                text.append(' ').append(type.getSimpleName());
            }
            got.add(text.toString());
        }
        Check.holds("the face is " + got, got.equals(due));
    }

    private static void constructorsAndFields() throws Exception {
        int type = DuctRake.class.getModifiers();
        Check.holds("public and final", Modifier.isPublic(type) && Modifier.isFinal(type));
        Constructor<?>[] constructors = DuctRake.class.getDeclaredConstructors();
        Check.same("constructors", constructors.length, 1);
        Check.same("its parameters", constructors[0].getParameterCount(), 0);
        Check.holds("it is public", Modifier.isPublic(constructors[0].getModifiers()));
        for (Field f : DuctRake.class.getDeclaredFields()) {
            boolean isFace = f.getName().equals("NONE");
            Check.holds(f + " is hidden", isFace ? Modifier.isPublic(f.getModifiers()) : Modifier.isPrivate(f.getModifiers()));
            Check.holds(f + " is final", Modifier.isFinal(f.getModifiers()));
        }
        Check.same("NONE", DuctRake.class.getField("NONE").getInt(null), -1);
    }

    private static void namesOfOtherMethods() {
        Set<String> face = new TreeSet<>();
        for (String line : FACE) {
            face.add(line.substring(0, line.indexOf(' ')));
        }
        for (Method m : DuctRake.class.getDeclaredMethods()) {
            boolean isPublic = Modifier.isPublic(m.getModifiers());
            Check.holds(m + " bears a public name", isPublic || !face.contains(m.getName()));
        }
        Class<?>[] inside = DuctRake.class.getDeclaredClasses();
        Check.holds("at most 11 classes inside", inside.length <= 11);
        for (Class<?> c : inside) {
            Check.holds(c + " is static and hidden",
                Modifier.isStatic(c.getModifiers()) && !Modifier.isPublic(c.getModifiers()));
            for (Method m : c.getDeclaredMethods()) {
                Check.holds(m + " bears a public name", !face.contains(m.getName()));
                Check.holds(m + " has too many parameters", m.getParameterCount() <= 7);
            }
        }
    }

    private static void source() throws Exception {
        String text = Files.readString(Path.of("src/main/java/DuctRake.java"));
        String code = text.replaceAll("(?s)/\\*.*?\\*/", "").replaceAll("//[^\n]*", "");
        for (String word : FORBIDDEN) {
            Check.holds("the source has " + word, !code.contains(word));
        }
        Check.holds("the source is ASCII", text.chars().allMatch(c -> c < 128));
        Check.holds("elements stand in the guarded places alone", unguardedElements(code) == 0);
        Check.holds("divisors are written out, or guarded", unguardedDivisors(code) == 0);
    }

    /** Elements are reached in Rows, in stateAt, and in two constructors whose loops end at the length. */
    private static int unguardedElements(String code) {
        Matcher m = Pattern.compile("[A-Za-z]\\[([a-z]+)\\]").matcher(code);
        Set<String> guarded = Set.of("index", "i", "k", "place");
        int wrong = 0;
        while (m.find()) {
            wrong += guarded.contains(m.group(1)) ? 0 : 1;
        }
        return wrong;
    }

    private static int unguardedDivisors(String code) {
        Matcher m = Pattern.compile(" [/%] ([A-Za-z0-9_(]+)").matcher(code);
        Set<String> guarded = Set.of("2", "10", "HUNDRED", "HEAD_SCALE", "divisor", "greatest");
        int wrong = 0;
        while (m.find()) {
            wrong += guarded.contains(m.group(1)) ? 0 : 1;
        }
        return wrong;
    }
}
