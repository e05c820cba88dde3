import java.io.IOException;
import java.nio.file.Files;
import java.nio.file.Path;
import java.util.ArrayList;
import java.util.Arrays;
import java.util.LinkedHashMap;
import java.util.List;
import java.util.Map;

/**
 * The words of the document, from its first line to its last, cut into its chapters ("What it is" and so on),
 * "section 1" to "section 6" and "promise 1" to "promise 62".
 */
final class Doc {
    /** The part that FaceTest compares with the class. */
    static final String FACE = "The public face";

    private static final Path PLACE = Path.of("..", "shared", "DOC.md");
    private static final Map<String, String> PARTS = new LinkedHashMap<>();
    private static final Map<String, boolean[]> HELD = new LinkedHashMap<>();
    private static final List<String> HEADS = new ArrayList<>();

    static {
        read();
    }

    private Doc() {
    }

    private static void read() {
        if (!Files.isRegularFile(PLACE)) {
            System.out.println("there is no " + PLACE + ": no quotation is compared with it");
            return;
        }
        try {
            cut(Files.readString(PLACE));
        } catch (IOException e) {
            throw new IllegalStateException(e);
        }
    }

    private static void cut(String text) {
        for (String chapter : text.split("(?m)^## ")) {
            String name = chapter.lines().findFirst().orElse("");
            String body = chapter.substring(name.length());
            if (name.equals("Terms")) {
                cutTerms(body);
            } else if (name.startsWith("Promise ")) {
                // the head of the method is not words to be held: FaceTest compares it with the class
                int end = body.indexOf("`:");
                HEADS.add(body.substring(body.indexOf('`') + 1, end));
                keep("promise " + name.substring(8, name.indexOf(':')), body.substring(end + 2));
            } else {
                keep(name, body.replace("```java", "").replace("```", ""));
            }
        }
    }

    private static void cutTerms(String body) {
        String[] sections = body.split("(?m)^(?=[1-6]\\. )");
        keep("Terms", sections[0]);
        for (int i = 1; i < sections.length; i++) {
            keep("section " + i, sections[i].substring(sections[i].indexOf('\n')));
        }
    }

    private static void keep(String part, String body) {
        PARTS.put(part, plain(body));
        HELD.put(part, new boolean[plain(body).length()]);
    }

    private static String plain(String words) {
        return words.replaceAll("\\s+", " ").trim();
    }

    /** The words of a part; none if the document is not there. */
    static String words(String part) {
        return PARTS.getOrDefault(part, "");
    }

    /** The heads of the methods, by promises. */
    static List<String> heads() {
        return HEADS;
    }

    /** The quoted words must stand in that part of the document. */
    static void hold(String part, String words) {
        if (PARTS.isEmpty()) {
            return;
        }
        String all = words(part);
        int at = all.indexOf(words);
        Check.due("these words stand in " + part, at >= 0, true);
        while (at >= 0) {
            Arrays.fill(HELD.get(part), at, at + words.length(), true);
            at = all.indexOf(words, at + words.length());
        }
    }

    /** What is left of the document when all that was held is taken out, must tell nothing. */
    static void checkAllIsHeld() {
        for (String part : PARTS.keySet()) {
            if (!part.equals(FACE)) {
                Check.about(part);
                Check.due("words that no test holds", left(part), "");
            }
        }
    }

    private static String left(String part) {
        String all = PARTS.get(part);
        boolean[] held = HELD.get(part);
        StringBuilder left = new StringBuilder();
        for (int i = 0; i < held.length; i++) {
            left.append(held[i] ? '|' : all.charAt(i));
        }
        return left.toString().replaceAll("[|]+", "|").replaceAll("(^|(?<=[|]))[ ,;.-]*([|]|$)", "");
    }
}
