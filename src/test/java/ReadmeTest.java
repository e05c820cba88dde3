import java.io.ByteArrayOutputStream;
import java.io.IOException;
import java.io.PrintStream;
import java.lang.reflect.Method;
import java.lang.reflect.Modifier;
import java.nio.file.Files;
import java.nio.file.Path;
import java.util.ArrayList;
import java.util.List;
import java.util.Map;
import java.util.TreeMap;
import java.util.regex.Matcher;
import java.util.regex.Pattern;

/** What README.md says holds: its calls and what they throw, its errors, its bounds, its example. */
public final class ReadmeTest {
    private static final Pattern ROW = Pattern.compile("(?m)^\\| `(\\w+)\\(([^)]*)\\)` \\| (.+) \\| ?(.*) ?\\|$");
    private static final Pattern ERROR = Pattern.compile("(?m)^\\| (\\d) \\| .+ \\| `(.+)` \\| (\\d+) \\|$");
    private static final Pattern BOUNDS = Pattern.compile("([A-Z]+) (\\d+) to (\\d+)");
    private static final Pattern PLACE = Pattern.compile("`((?:src|\\.\\.)/[\\w/.]+)`");

    public static void main(String[] args) throws IOException {
        String page = Files.readString(Path.of("README.md"));
        checkCalls(page);
        checkErrors(page);
        checkBounds(page);
        checkExample(page);
        checkPlaces(page);
        Check.end();
    }

    /** Each call of the face has one row, with as many arguments, and with what it throws in its order. */
    private static void checkCalls(String page) {
        Map<String, String> told = new TreeMap<>();
        Matcher row = ROW.matcher(page);
        while (row.find()) {
            Check.due("a row of " + row.group(1) + " ahead", told.containsKey(row.group(1)), false);
            int arguments = row.group(2).isEmpty() ? 0 : row.group(2).split(", ").length;
            told.put(row.group(1), arguments + " arguments, throws " + row.group(4).trim());
        }
        Map<String, String> face = new TreeMap<>();
        for (Method m : BootSlots.class.getDeclaredMethods()) {
            if (Modifier.isPublic(m.getModifiers())) {
                face.put(m.getName(), m.getParameterCount() + " arguments, throws " + thrown(m));
            }
        }
        Check.about("README.md, the calls");
        Check.due("the rows", told, face);
    }

    private static String thrown(Method m) {
        List<String> names = new ArrayList<>();
        for (Class<?> e : m.getExceptionTypes()) {
            if (e == Check.STATE) {
                names.add("State");
            } else if (e == Check.INDEX) {
                names.add("Index");
            } else {
                names.add("Argument");
            }
        }
        return String.join(", ", names);
    }

    private static void checkErrors(String page) {
        Check.about("README.md, the errors of texts");
        Matcher row = ERROR.matcher(page);
        int code = 0;
        while (row.find()) {
            code++;
            Check.due("the next code", Integer.parseInt(row.group(1)), code);
            Edge.wrongText(row.group(2), code, Integer.parseInt(row.group(3)));
        }
        Check.due("codes", code, 6);
    }

    /** The least and the greatest number are taken, their neighbours are not. */
    private static void checkBounds(String page) {
        Check.about("README.md, the bounds of texts");
        String form = "machine WATCH LIMIT RETRY FLOOR;slot;image 0 VERSION START CRASH;mark 0 PRIORITY TRIES";
        String words = "WATCH LIMIT RETRY FLOOR VERSION START CRASH PRIORITY TRIES";
        String line = page.substring(page.indexOf("The bounds: "));
        Matcher bounds = BOUNDS.matcher(line.substring(0, line.indexOf("\n\n")));
        StringBuilder told = new StringBuilder();
        while (bounds.find()) {
            String word = bounds.group(1);
            told.append(told.length() == 0 ? "" : " ").append(word);
            checkBound(form, word, Integer.parseInt(bounds.group(2)), Integer.parseInt(bounds.group(3)));
        }
        Check.due("the words", told.toString(), words);
    }

    private static void checkBound(String form, String word, int least, int greatest) {
        Check.due("the least " + word, isTaken(form, word, least), true);
        Check.due("the greatest " + word, isTaken(form, word, greatest), true);
        Check.due("more than the greatest " + word, isTaken(form, word, greatest + 1), false);
        if (least > 0) {
            Check.due("less than the least " + word, isTaken(form, word, least - 1), false);
        }
    }

    private static boolean isTaken(String form, String word, int number) {
        String text = form.replaceAll("\\b" + word + "\\b", "" + number).replaceAll("[A-Z]+", "1");
        BootSlots x = new BootSlots();
        Check.feed(x, text);
        try {
            x.load(text.length());
            return true;
        } catch (IllegalArgumentException e) {
            return false;
        }
    }

    /** The program stands there as it is in its file, and prints what stands there. */
    private static void checkExample(String page) throws IOException {
        Check.about("README.md, the example");
        Check.due("the program", block(page, "```java\n"), Files.readString(Path.of("src/test/java/Example.java")));
        Check.due("what it prints", block(page, "It prints\n\n```\n"), printed());
    }

    private static String block(String page, String head) {
        int from = page.indexOf(head);
        if (from < 0) {
            return "";
        }
        from += head.length();
        return page.substring(from, page.indexOf("```", from));
    }

    private static String printed() {
        PrintStream out = System.out;
        ByteArrayOutputStream bytes = new ByteArrayOutputStream();
        System.setOut(new PrintStream(bytes, true));
        Example.main(new String[0]);
        System.setOut(out);
        return bytes.toString().replace(System.lineSeparator(), "\n");
    }

    /** The files of this project that are named are there (those beside it may be missing). */
    private static void checkPlaces(String page) {
        Check.about("README.md, the places");
        Matcher place = PLACE.matcher(page);
        while (place.find()) {
            Path path = Path.of(place.group(1));
            if (!path.startsWith("..")) {
                Check.due("a place, " + path, Files.exists(path), true);
            }
        }
        Matcher test = Pattern.compile("`(\\w+Test)`").matcher(page);
        while (test.find()) {
            Check.due("a test, " + test.group(1), Files.exists(Path.of("src/test/java", test.group(1) + ".java")), true);
        }
    }
}
