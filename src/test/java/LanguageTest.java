import java.io.IOException;
import java.lang.reflect.Constructor;
import java.lang.reflect.Field;
import java.lang.reflect.Method;
import java.lang.reflect.Modifier;
import java.nio.file.Files;
import java.nio.file.Path;
import java.util.Arrays;
import java.util.Set;
import java.util.TreeSet;

/** The face, and what of ../shared/LANGUAGE.md can be seen from the text and the compiled class. */
public final class LanguageTest {
    private static final String[] FACE = {
        "int pause(int int int int)", "int of(int int)", "int set(int int)", "int later(int int int)", "int feed(long int)",
        "int law()", "int drawn(int int)", "int demand(int)", "int work(int int int int)", "int call(int int int)",
        "int made(int)", "int costs()", "long beat(int)", "int first(int)", "long wave(int)", "int inertia(int)",
        "int best(int int int)", "long sure(int int)", "int worst(int int)", "int beside(int int int int)", "int pump(int int)",
        "int row(int)", "int watched(int int)", "int waits(int int int)", "int act(int int int)", "int trace(int)",
        "int as(int int)", "int image()", "int undo()", "int count(int)"};
    private static final String[] REFUSED = {
        "throw", "try", "catch", "synchronized", "assert", "->", "::", "equals(", "hashCode", "toString", "Exact(", "while (",
        "System.out", "Object", "@", "\\u", "new Random", "static {", "yield", "sealed", "double", "float"};
    private static final int CLASSES = 12, LINES = 60, FIELDS = 20, PARAMETERS = 7;

    private LanguageTest() {
    }

    public static void main(String[] args) throws IOException {
        face();
        constants();
        for (Class<?> inside : KettleBeats.class.getDeclaredClasses()) {
            boolean plain = Modifier.isStatic(inside.getModifiers()) && !Modifier.isPublic(inside.getModifiers());
            say(plain, inside + " is static and not public");
            members(inside);
        }
        members(KettleBeats.class);
        say(KettleBeats.class.getDeclaredClasses().length < CLASSES, "no more than twelve classes");
        text(Files.readString(Path.of(System.getProperty("kettlebeats.source"))));
        Checks.close();
    }

    private static void say(boolean holds, String what) {
        Checks.due(what, "" + holds, "true");
    }

    private static String list(Class<?>... types) {
        return Arrays.toString(Arrays.stream(types).map(Class::getSimpleName).toArray()).replaceAll("[\\[\\],]", "");
    }

    private static void face() {
        say(Modifier.isFinal(KettleBeats.class.getModifiers()), "the class is final");
        Constructor<?>[] makers = KettleBeats.class.getDeclaredConstructors();
        say(makers.length == 1 && Modifier.isPublic(makers[0].getModifiers()) && makers[0].getParameterCount() == 0, "one constructor");
        Set<String> open = new TreeSet<>();
        Set<String> names = new TreeSet<>();
        for (Method method : KettleBeats.class.getDeclaredMethods()) {
            if (!Modifier.isPrivate(method.getModifiers())) {
                say(Modifier.isPublic(method.getModifiers()) && !Modifier.isStatic(method.getModifiers()), method + " is public");
                open.add(method.getReturnType() + " " + method.getName() + "(" + list(method.getParameterTypes()) + ")");
                names.add(method.getName());
            }
        }
        Checks.due("the face", open.toString(), new TreeSet<>(Arrays.asList(FACE)).toString());
        for (Method method : KettleBeats.class.getDeclaredMethods()) {
            boolean hidden = Modifier.isPrivate(method.getModifiers());
            say(!hidden || !names.contains(method.getName()), method.getName() + " bears no public name");
        }
    }

    private static void constants() {
        Set<String> open = new TreeSet<>();
        for (Field field : KettleBeats.class.getDeclaredFields()) {
            if (!Modifier.isPrivate(field.getModifiers())) {
                open.add(Modifier.toString(field.getModifiers()) + " " + field.getType() + " " + field.getName());
            }
        }
        Checks.due("constants", open.toString(), "[public static final int BAD, public static final int FULL, "
            + "public static final int NONE, public static final int STATE, public static final long NO]");
        Checks.due("NONE", KettleBeats.NONE, -1);
        Checks.due("BAD", KettleBeats.BAD, -2);
        Checks.due("STATE", KettleBeats.STATE, -3);
        Checks.due("FULL", KettleBeats.FULL, -4);
        Checks.due("NO", KettleBeats.NO, Long.MIN_VALUE);
    }

    private static void members(Class<?> type) {
        int fields = 0;
        for (Field field : type.getDeclaredFields()) {
            boolean fixed = Modifier.isStatic(field.getModifiers());
            say(!fixed || Modifier.isFinal(field.getModifiers()), field + " is final, if it is static");
            fields += fixed ? 0 : 1;
        }
        say(fields <= FIELDS, type + " has no more than twenty fields");
        for (Method method : type.getDeclaredMethods()) {
            say(method.getParameterCount() <= PARAMETERS, method + " takes no more than seven");
        }
    }

    private static void text(String source) {
        String code = source.replaceAll("/\\*(?s:.*?)\\*/", "").replaceAll("//[^\n]*", "");
        for (String sign : REFUSED) {
            say(!code.contains(sign), "no '" + sign + "' in the code");
        }
        for (String line : code.split("\n")) {
            say(!line.startsWith("import") || line.equals("import java.util.Arrays;"), "nothing else to import: " + line);
        }
        say(source.chars().allMatch(sign -> sign == '\n' || sign >= 32 && sign < 127), "plain signs alone");
        shortMethods(code.split("\n"));
    }

    /** A method begins at four or eight blanks and ends with a brace as far in. */
    private static void shortMethods(String[] lines) {
        for (int i = 0; i < lines.length; i++) {
            if (lines[i].matches("( {4}| {8})[a-zA-Z].*\\) \\{")) {
                String end = lines[i].replaceAll("\\S.*", "") + "}";
                int last = i;
                while (last < lines.length && !lines[last].equals(end)) {
                    last++;
                }
                say(last - i <= LINES, "short: " + lines[i].trim());
            }
        }
    }
}
