import java.io.IOException;
import java.lang.reflect.Field;
import java.lang.reflect.Method;
import java.lang.reflect.Modifier;
import java.nio.file.Files;
import java.nio.file.Path;
import java.util.Arrays;
import java.util.LinkedHashMap;
import java.util.List;
import java.util.Map;
import java.util.Set;
import java.util.TreeSet;
import java.util.regex.Matcher;
import java.util.regex.Pattern;

/**
 * The document beside the class and the edges: the face is the one that is told, each edge quotes
 * the part that it names word for word, and of "Terms" and the promises no word is left without an
 * edge. Its second argument is the path of the document.
 */
public final class DocumentTest {
    private static final int PROMISES = 36;
    private static final Check CHECK = new Check();

    public static void main(String[] args) throws Exception {
        String document = Files.readString(Path.of(args[1]));
        face(document);
        Map<String, String> parts = partsOf(document);
        List<Edges.Quote> quotes = quotesOfAllEdges();
        for (Edges.Quote quote : quotes) {
            stands(quote, parts);
        }
        Set<String> told = new TreeSet<>(parts.keySet());
        told.removeAll(Set.of("What it is", "The public face", "Not promised"));
        CHECK.due("parts " + told, told.size(), 1 + PROMISES);
        for (String part : told) {
            hasNothingWithoutAnEdge(part, parts.get(part), quotes);
        }
        CHECK.end("DocumentTest, " + quotes.size() + " quotes");
    }

    private static void isTrue(String what, boolean is) {
        CHECK.due(what, is ? 1 : 0, 1);
    }

    private static void face(String document) throws IOException, IllegalAccessException {
        Matcher block = Pattern.compile("(?s)```java\n(.*?)```").matcher(document);
        isTrue("a face is told", block.find());
        Set<String> told = new TreeSet<>();
        for (String line : block.group(1).split("\n")) {
            line = line.strip();
            if (line.startsWith("public static final int")) {
                told.addAll(Arrays.asList(line.replaceAll("public static final int |;", "").split(", ")));
            } else if (line.contains("(")) {
                told.add(line.replaceAll("int \\w+([,)])", "int$1"));
            } else if (line.contains("class")) {
                told.add(line.replace(" {", ""));
            }
        }
        Set<String> there = seenFace();
        CHECK.due("the face has " + there.size() + " members", there.size(), told.size());
        for (String member : told) {
            isTrue("the face has " + member, there.contains(member));
        }
    }

    private static Set<String> seenFace() throws IllegalAccessException {
        Class<?> c = PulpitRoads.class;
        Set<String> there = new TreeSet<>();
        there.add(Modifier.toString(c.getModifiers()) + " class " + c.getName());
        for (Field field : c.getFields()) {
            there.add(field.getName() + " = " + field.getInt(null));
        }
        for (Object made : c.getConstructors()) {
            there.add(made + ";");
        }
        for (Method method : c.getDeclaredMethods()) {
            if (Modifier.isPublic(method.getModifiers())) {
                there.add(method.toString().replace("PulpitRoads.", "").replace(",", ", ") + ";");
            }
        }
        return there;
    }

    /** The parts by their headings, a promise by "Promise" and its number; what is no sentence of it is left out. */
    private static Map<String, String> partsOf(String document) {
        Map<String, String> parts = new LinkedHashMap<>();
        for (String part : document.split("(?m)^## ")) {
            int end = part.indexOf('\n');
            String text = part.substring(end)
                .replaceAll("(?m)^`[^`]*`:|^Ahead of the calls .* says: ---- [a-z, ]*|^```.*$|^=+ \\d", "");
            parts.put(part.substring(0, end).replaceAll(":.*", ""), oneLine(text));
        }
        parts.remove("# PulpitRoads");
        return parts;
    }

    private static String oneLine(String text) {
        return text.replaceAll("\\s+", " ").strip();
    }

    private static List<Edges.Quote> quotesOfAllEdges() {
        List<Edges.Quote> quotes = Edges.noteOnly();
        TermsEdgesTest.main(null);
        TextsEdgesTest.main(null);
        RowsEdgesTest.main(null);
        RoadsEdgesTest.main(null);
        ForetoldEdgesTest.main(null);
        AskedEdgesTest.main(null);
        return quotes;
    }

    private static void stands(Edges.Quote quote, Map<String, String> parts) {
        String text = parts.getOrDefault(quote.part(), "");
        int from = 0;
        for (String piece : quote.pieces()) {
            int at = text.indexOf(piece, from);
            isTrue(quote.part() + " says \"" + piece + "\"", at >= 0);
            from = Math.max(at, 0) + piece.length();
        }
    }

    private static void hasNothingWithoutAnEdge(String part, String text, List<Edges.Quote> quotes) {
        boolean[] quoted = new boolean[text.length()];
        for (Edges.Quote quote : quotes) {
            for (String piece : quote.part().equals(part) ? quote.pieces() : List.<String>of()) {
                for (int at = text.indexOf(piece); at >= 0; at = text.indexOf(piece, at + 1)) {
                    Arrays.fill(quoted, at, at + piece.length(), true);
                }
            }
        }
        StringBuilder rest = new StringBuilder();
        for (int i = 0; i < quoted.length; i++) {
            rest.append(quoted[i] ? ' ' : text.charAt(i));
        }
        String words = rest.toString().replaceAll("[^A-Za-z0-9 ]", " ");
        isTrue(part + " has words without an edge: " + oneLine(words), words.isBlank());
    }
}
