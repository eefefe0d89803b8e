import java.lang.reflect.Constructor;
import java.lang.reflect.Field;
import java.lang.reflect.Method;
import java.lang.reflect.Modifier;
import java.nio.file.Files;
import java.nio.file.Path;
import java.util.ArrayList;
import java.util.List;
import java.util.Map;
import java.util.Set;
import java.util.TreeMap;
import java.util.TreeSet;
import java.util.regex.Matcher;
import java.util.regex.Pattern;

/** The rules of LANGUAGE.md that can be seen from outside; its argument is the path of the class's file. */
public final class LanguageTest {
    private static final String FACE = "row3 set3 copy5 drop1 feed1 road0 fault0 hours1 put2 skip2 forget1 undo0 pulpit2"
        + " stretch2 ahead3 heard2 whole1 first1 left1 meet2 round0 best4 piece1 walk3 fits5 axles4 drawn3 image1"
        + " restore1 kind1 as2 ask2 trace1 count1 status0";
    private static final String[] BANNED = {"\\bthrow\\b", "\\btry\\b", "\\bcatch\\b", "\\bsynchronized\\b",
        "\\bassert\\b", "\\bimport\\b", "\\bpackage\\b", "->", "::", "Exact\\(", "\\bprotected\\b", "\\bObject\\b",
        "\\bhashCode\\b", "\\btoString\\b", "\\bThread\\b", "System\\.(?!arraycopy)", "static\\s*\\{", "@"};
    private static final Set<String> OWN = Set.of("PulpitRoads", "Row", "Tape", "Road", "Acts", "Bodies");
    private static final Set<String> LIBRARY = Set.of("Integer.bitCount", "Math.min", "System.arraycopy");
    private static final Set<Class<?>> PLAIN = Set.of(int.class, long.class, boolean.class, void.class, int[].class);
    private static final int DEEPEST = 8;
    private static final Check CHECK = new Check();

    public static void main(String[] args) throws Exception {
        face();
        membersOfAllClasses();
        text(Files.readString(Path.of(args[0])));
        CHECK.end("LanguageTest");
    }

    private static void isTrue(String what, boolean is) {
        CHECK.due(what, is ? 1 : 0, 1);
    }

    private static void face() {
        Set<String> want = new TreeSet<>(Set.of(FACE.split(" ")));
        Set<String> names = new TreeSet<>();
        Set<String> privates = new TreeSet<>();
        for (Method m : PulpitRoads.class.getDeclaredMethods()) {
            if (Modifier.isPrivate(m.getModifiers())) {
                privates.add(m.getName());
                continue;
            }
            isTrue(m + " is public int", m.getReturnType() == int.class && Modifier.isPublic(m.getModifiers()));
            isTrue(m + " is of the face", want.remove(m.getName() + m.getParameterCount()));
            names.add(m.getName());
        }
        isTrue("the face is whole, but " + want, want.isEmpty());
        for (Class<?> inside : PulpitRoads.class.getDeclaredClasses()) {
            for (Method m : inside.getDeclaredMethods()) {
                privates.add(m.getName());
            }
        }
        privates.retainAll(names);
        isTrue("private methods bear no public names, but " + privates, privates.isEmpty());
        isTrue("the class is public and final", PulpitRoads.class.getModifiers() == (Modifier.PUBLIC | Modifier.FINAL));
        Constructor<?>[] made = PulpitRoads.class.getDeclaredConstructors();
        isTrue("one public constructor without parameters",
            made.length == 1 && made[0].getParameterCount() == 0 && Modifier.isPublic(made[0].getModifiers()));
        Set<String> constants = new TreeSet<>();
        for (Field f : PulpitRoads.class.getDeclaredFields()) {
            if (!Modifier.isPrivate(f.getModifiers())) {
                constants.add(f.getName());
            }
        }
        isTrue("the constants", constants.equals(Set.of("NONE", "BAD", "STATE", "FULL")));
        CHECK.due("NONE", PulpitRoads.NONE, -1000000);
        CHECK.due("BAD", PulpitRoads.BAD, -1000001);
        CHECK.due("STATE", PulpitRoads.STATE, -1000002);
        CHECK.due("FULL", PulpitRoads.FULL, -1000003);
    }

    private static void membersOfAllClasses() {
        Class<?>[] inside = PulpitRoads.class.getDeclaredClasses();
        isTrue("at most twelve classes", inside.length < 12);
        members(PulpitRoads.class);
        for (Class<?> c : inside) {
            isTrue(c + " is static", Modifier.isStatic(c.getModifiers()));
            members(c);
        }
    }

    private static void members(Class<?> c) {
        int fields = 0;
        for (Field f : c.getDeclaredFields()) {
            boolean isStatic = Modifier.isStatic(f.getModifiers());
            isTrue(f + " is final, if static", !isStatic || Modifier.isFinal(f.getModifiers()));
            isTrue(f + " is of a type that may be", isPlain(f.getType()) && (!isStatic || PLAIN.contains(f.getType())));
            fields += isStatic ? 0 : 1;
        }
        isTrue(c + " has some twenty fields", fields <= 20);
        for (Method m : c.getDeclaredMethods()) {
            isTrue(m + " has seven parameters at most", m.getParameterCount() <= 7);
            isTrue(m + " answers a type that may be", isPlain(m.getReturnType()));
        }
    }

    private static boolean isPlain(Class<?> type) {
        Class<?> one = type.isArray() ? type.getComponentType() : type;
        return PLAIN.contains(type) || OWN.contains(one.getSimpleName());
    }

    private static void text(String source) {
        String code = source.replaceAll("(?s)/\\*.*?\\*/", "").replaceAll("//[^\\n]*", "");
        for (String banned : BANNED) {
            Matcher m = Pattern.compile(banned).matcher(code);
            isTrue("nothing like " + banned, !m.find());
        }
        isTrue("no text", !code.contains("\""));
        isTrue("signs 1 to 127", source.chars().allMatch(c -> c > 0 && c < 128));
        namesAreKnown(code);
        loopsAreCounted(code);
        objectsAreMadeOnce(code);
        methodsAreShort(code.split("\n"));
    }

    private static void namesAreKnown(String code) {
        Matcher name = Pattern.compile("\\b[A-Z]\\w*[a-z]\\w*(\\.\\w+)?").matcher(code);
        while (name.find()) {
            isTrue(name.group() + " is its own or of the library", OWN.contains(name.group()) || LIBRARY.contains(name.group()));
        }
    }

    private static void loopsAreCounted(String code) {
        isTrue("no loop without a counter", !code.matches("(?s).*\\b(while|do)\\b.*"));
        Matcher loop = Pattern.compile("\\bfor \\((.*)\\) \\{").matcher(code);
        Pattern counted = Pattern.compile("int (\\w+) = [^;]*; \\1 (<|<=|>) [^;]*; \\1(\\+\\+|--)");
        while (loop.find()) {
            isTrue(loop.group() + " is counted", counted.matcher(loop.group(1)).matches());
        }
    }

    /** As fields, or in the one constructor: no call makes an object, so no run can make too many. */
    private static void objectsAreMadeOnce(String code) {
        for (String line : code.split("\n")) {
            if (line.matches(".*\\bnew\\b.*")) {
                isTrue(line.trim() + " is made once",
                    line.matches(" +private final .* = new .*;|            (rows\\[r\\]|images\\[k\\]) = new \\w+\\(\\);"));
            }
        }
    }

    /** A method ends with a brace as far in as the line that it begins with. */
    private static void methodsAreShort(String[] lines) {
        Map<String, String> bodies = new TreeMap<>();
        for (int i = 0; i < lines.length; i++) {
            Matcher begin = Pattern.compile("( +)(public|private)[^=;(]* (\\w+)\\(.*\\{").matcher(lines[i]);
            if (begin.matches()) {
                int end = i;
                while (end < lines.length && !lines[end].equals(begin.group(1) + "}")) {
                    end++;
                }
                isTrue("a short method: " + lines[i].trim(), end - i <= 60);
                String body = String.join("\n", List.of(lines).subList(i + 1, end));
                bodies.merge(begin.group(3), body, String::concat);
            }
        }
        isTrue("methods are found: " + bodies.size(), bodies.size() > 36);
        for (String method : bodies.keySet()) {
            int deep = deepest(method, bodies, new ArrayList<>());
            isTrue(method + " calls " + deep + " deep", deep <= DEEPEST);
        }
    }

    /** Methods of one name count as one, and one that is open already is not gone into again. */
    private static int deepest(String method, Map<String, String> bodies, List<String> open) {
        open.add(method);
        int deep = 0;
        Matcher call = Pattern.compile("\\b(\\w+)\\(").matcher(bodies.get(method));
        while (call.find()) {
            if (bodies.containsKey(call.group(1)) && !open.contains(call.group(1))) {
                deep = Math.max(deep, deepest(call.group(1), bodies, open));
            }
        }
        open.remove(method);
        return deep + 1;
    }
}
