import java.lang.reflect.Constructor;
import java.lang.reflect.Field;
import java.lang.reflect.Method;
import java.lang.reflect.Modifier;
import java.nio.file.Files;
import java.nio.file.Path;
import java.util.Set;
import java.util.TreeSet;
import java.util.regex.Matcher;
import java.util.regex.Pattern;

/** The rules of LANGUAGE.md that can be seen from outside; its argument is the path of the class's file. */
public final class LanguageTest {
    private static final String FACE = "row3 set3 copy5 drop1 feed1 road0 fault0 hours1 put2 skip2 forget1 undo0 pulpit2"
        + " stretch2 ahead3 heard2 whole1 first1 left1 meet2 round0 best4 piece1 walk3 fits5 axles4 drawn3 image1"
        + " restore1 kind1 as2 ask2 trace1 count1 status0";
    private static final String[] BANNED = {"\\bthrow\\b", "\\btry\\b", "\\bcatch\\b", "\\bsynchronized\\b",
        "\\bassert\\b", "\\bimport\\b", "\\bpackage\\b", "->", "::", "Exact\\(", "\\bprotected\\b", "\\bObject\\b",
        "\\bhashCode\\b", "\\btoString\\b", "\\bThread\\b", "System\\.(?!arraycopy)", "static\\s*\\{", "@"};
    private static final Check CHECK = new Check();

    public static void main(String[] args) throws Exception {
        face();
        membersOfAllClasses();
        text(Files.readString(Path.of(args[0])));
        CHECK.end("LanguageTest");
    }

    private static void isTrue(String what, boolean is) {
        CHECK.due(what, is ? 1 : 0, 1);
    }

    private static void face() {
        Set<String> want = new TreeSet<>(Set.of(FACE.split(" ")));
        Set<String> names = new TreeSet<>();
        Set<String> privates = new TreeSet<>();
        for (Method m : PulpitRoads.class.getDeclaredMethods()) {
            if (Modifier.isPrivate(m.getModifiers())) {
                privates.add(m.getName());
                continue;
            }
            isTrue(m + " is public int", m.getReturnType() == int.class && Modifier.isPublic(m.getModifiers()));
            isTrue(m + " is of the face", want.remove(m.getName() + m.getParameterCount()));
            names.add(m.getName());
        }
        isTrue("the face is whole, but " + want, want.isEmpty());
        for (Class<?> inside : PulpitRoads.class.getDeclaredClasses()) {
            for (Method m : inside.getDeclaredMethods()) {
                privates.add(m.getName());
            }
        }
        privates.retainAll(names);
        isTrue("private methods bear no public names, but " + privates, privates.isEmpty());
        isTrue("the class is public and final", PulpitRoads.class.getModifiers() == (Modifier.PUBLIC | Modifier.FINAL));
        Constructor<?>[] made = PulpitRoads.class.getDeclaredConstructors();
        isTrue("one public constructor without parameters",
            made.length == 1 && made[0].getParameterCount() == 0 && Modifier.isPublic(made[0].getModifiers()));
        Set<String> constants = new TreeSet<>();
        for (Field f : PulpitRoads.class.getDeclaredFields()) {
            if (!Modifier.isPrivate(f.getModifiers())) {
                constants.add(f.getName());
            }
        }
        isTrue("the constants", constants.equals(Set.of("NONE", "BAD", "STATE", "FULL")));
        CHECK.due("NONE", PulpitRoads.NONE, -1000000);
        CHECK.due("BAD", PulpitRoads.BAD, -1000001);
        CHECK.due("STATE", PulpitRoads.STATE, -1000002);
        CHECK.due("FULL", PulpitRoads.FULL, -1000003);
    }

    private static void membersOfAllClasses() {
        Class<?>[] inside = PulpitRoads.class.getDeclaredClasses();
        isTrue("at most twelve classes", inside.length < 12);
        members(PulpitRoads.class);
        for (Class<?> c : inside) {
            isTrue(c + " is static", Modifier.isStatic(c.getModifiers()));
            members(c);
        }
    }

    private static void members(Class<?> c) {
        int fields = 0;
        for (Field f : c.getDeclaredFields()) {
            boolean isStatic = Modifier.isStatic(f.getModifiers());
            isTrue(f + " is final, if static", !isStatic || Modifier.isFinal(f.getModifiers()));
            fields += isStatic ? 0 : 1;
        }
        isTrue(c + " has some twenty fields", fields <= 20);
        for (Method m : c.getDeclaredMethods()) {
            isTrue(m + " has seven parameters at most", m.getParameterCount() <= 7);
        }
    }

    private static void text(String source) {
        String code = source.replaceAll("(?s)/\\*.*?\\*/", "").replaceAll("//[^\\n]*", "");
        for (String banned : BANNED) {
            Matcher m = Pattern.compile(banned).matcher(code);
            isTrue("nothing like " + banned, !m.find());
        }
        isTrue("no while without a bound", !code.contains("while (true)") && !code.contains("for (;;)"));
        isTrue("signs 1 to 127", source.chars().allMatch(c -> c > 0 && c < 128));
        methodsAreShort(code.split("\n"));
    }

    /** A method ends with a brace as far in as the line that it begins with. */
    private static void methodsAreShort(String[] lines) {
        for (int i = 0; i < lines.length; i++) {
            Matcher begin = Pattern.compile("( +)(public|private)[^=;]*\\(.*\\{").matcher(lines[i]);
            if (begin.matches()) {
                int end = i;
                while (end < lines.length && !lines[end].equals(begin.group(1) + "}")) {
                    end++;
                }
                isTrue("a short method: " + lines[i].trim(), end - i <= 60);
            }
        }
    }
}
