import java.io.IOException;
import java.lang.reflect.Constructor;
import java.lang.reflect.Field;
import java.lang.reflect.Method;
import java.lang.reflect.Modifier;
import java.nio.file.Files;
import java.nio.file.Path;
import java.util.Arrays;
import java.util.Map;
import java.util.Set;
import java.util.TreeMap;
import java.util.TreeSet;
import java.util.regex.Matcher;
import java.util.regex.Pattern;

/** The document's public face, and the rules of LANGUAGE.md that can be read off the class or its text. */
public final class FaceTest {
    private static final Map<String, Integer> METHODS = new TreeMap<>(Map.ofEntries(
            Map.entry("anew", 5), Map.entry("stick", 2), Map.entry("valve", 2), Map.entry("tick", 1),
            Map.entry("ticks", 2), Map.entry("now", 1), Map.entry("setting", 1), Map.entry("leadsTo", 1),
            Map.entry("locked", 2), Map.entry("cause", 1), Map.entry("followed", 1), Map.entry("places", 0),
            Map.entry("step", 1), Map.entry("wipe", 0), Map.entry("stepAt", 1), Map.entry("trial", 4),
            Map.entry("trials", 1), Map.entry("reach", 4), Map.entry("many", 1)));
    private static final Set<String> CONSTANTS = new TreeSet<>(Set.of("UNKNOWN", "OUTSIDE", "STATE", "FULL", "NONE"));
    private static final int LONGEST_METHOD = 60;
    private static final int MOST_FIELDS = 20;
    private static final int MOST_CLASSES = 12;
    private static final int MOST_PARAMETERS = 7;

    public static void main(String[] args) throws IOException {
        constants();
        publicMembers();
        classesInside();
        text();
        Check.end();
    }

    private static void constants() {
        Check.due("UNKNOWN", PressGuard.UNKNOWN, -1);
        Check.due("OUTSIDE", PressGuard.OUTSIDE, -2);
        Check.due("STATE", PressGuard.STATE, -3);
        Check.due("FULL", PressGuard.FULL, -4);
        Check.due("NONE", PressGuard.NONE, -9);
    }

    private static void publicMembers() {
        Class<?> type = PressGuard.class;
        Check.due("public and final", Modifier.isPublic(type.getModifiers()) && Modifier.isFinal(type.getModifiers()));
        Map<String, Integer> found = new TreeMap<>();
        for (Method m : type.getDeclaredMethods()) {
            if (Modifier.isPrivate(m.getModifiers())) {
                Check.due("private " + m.getName() + " has a name of its own", !METHODS.containsKey(m.getName()));
                continue;
            }
            found.put(m.getName(), m.getParameterCount());
            boolean ints = m.getReturnType() == int.class && Arrays.stream(m.getParameterTypes()).allMatch(p -> p == int.class);
            Check.due(m + " is as the face has it", ints && Modifier.isPublic(m.getModifiers()) && !Modifier.isStatic(m.getModifiers()));
        }
        Check.due("the methods are " + found, found.equals(METHODS));
        Set<String> open = new TreeSet<>();
        for (Field f : type.getDeclaredFields()) {
            if (!Modifier.isPrivate(f.getModifiers())) {
                open.add(f.getName());
            }
        }
        Check.due("the constants are " + open, open.equals(CONSTANTS));
        Constructor<?>[] made = type.getDeclaredConstructors();
        Check.due("one public constructor", made.length == 1 && made[0].getParameterCount() == 0 && Modifier.isPublic(made[0].getModifiers()));
    }

    private static void classesInside() {
        Class<?>[] inside = PressGuard.class.getDeclaredClasses();
        Check.due("so few classes", inside.length < MOST_CLASSES);
        for (Class<?> c : inside) {
            Check.due(c + " is static and private", Modifier.isStatic(c.getModifiers()) && Modifier.isPrivate(c.getModifiers()));
            long fields = Arrays.stream(c.getDeclaredFields()).filter(f -> !Modifier.isStatic(f.getModifiers())).count();
            Check.due(c + " has few fields", fields <= MOST_FIELDS);
            for (Field f : c.getDeclaredFields()) {
                Check.due(f + " static is final", !Modifier.isStatic(f.getModifiers()) || Modifier.isFinal(f.getModifiers()));
            }
            for (Method m : c.getDeclaredMethods()) {
                Check.due(m + " has a name of its own", !METHODS.containsKey(m.getName()));
                Check.due(m + " has few parameters", m.getParameterCount() <= MOST_PARAMETERS);
            }
        }
    }

    private static void text() throws IOException {
        String whole = Files.readString(Path.of("src/main/java/PressGuard.java"));
        Check.due("plain signs alone", whole.chars().allMatch(c -> c == '\n' || c >= 32 && c < 127));
        String code = whole.replaceAll("(?s)/\\*.*?\\*/", "").replaceAll("//[^\n]*", "");
        String[] never = {"\\bthrow\\b", "\\btry\\b", "\\bcatch\\b", "\\bsynchronized\\b", "\\bassert\\b", "->", "::",
            "\\bpackage\\b", "\\bSystem\\b", "\\bRandom\\b", "\\bThread\\b", "\\bdouble\\b", "\\bfloat\\b",
            "\\w+Exact\\b", "\\bhashCode\\b", "\\bequals\\b", "\\btoString\\b", "static\\s*\\{", "import (?!java\\.util\\.Arrays;)"};
        for (String rule : never) {
            Matcher m = Pattern.compile(rule).matcher(code);
            Check.due("no " + rule, !m.find());
        }
        shortMethods(code);
    }

    /** A method begins with a line that ends in ') {' and has a name ahead of its '(', and ends where its braces close. */
    private static void shortMethods(String code) {
        String[] lines = code.split("\n");
        Pattern head = Pattern.compile("^\\s+(public |private |static |final )*[\\w\\[\\]]+ \\w+\\([^)]*\\) \\{$");
        for (int k = 0; k < lines.length; k++) {
            if (!head.matcher(lines[k]).matches() || lines[k].contains(" else ")) {
                continue;
            }
            int depth = 0;
            int end = k;
            do {
                depth += lines[end].replaceAll("[^{]", "").length() - lines[end].replaceAll("[^}]", "").length();
                end++;
            } while (depth > 0 && end < lines.length);
            Check.due("short: " + lines[k].strip(), end - k <= LONGEST_METHOD);
        }
    }
}
