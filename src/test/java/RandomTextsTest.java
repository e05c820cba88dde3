import java.util.ArrayList;
import java.util.List;
import java.util.regex.Matcher;
import java.util.regex.Pattern;

/**
 * Promises 3 to 5 and section 5: texts that are right, and texts in which something was left out, put in or put in
 * place of something else, each held against a reader of its own that cuts the text into tokens first. The numbers
 * come from a fixed sequence, so all texts are the same each time.
 */
public final class RandomTextsTest {
    private static final int TEXTS = 60000;
    private static final String[] PIECES = {"machine", "slot", "image", "mark", "unsigned", "damaged", "good", ";", ";",
        "0", "1", "2", "5", "6", "7", "8", "9", "10", "15", "16", "99", "00", "09", "000", "100", "x", "slots", "abcdefgh",
        "abcdefghi", "A", "-", "\u00e9", "\u0000"};

    private static long seed = 62L;

    /** A token, or what should be one. */
    private static final class Token {
        final String text;
        final int at;

        Token(String text, int at) {
            this.text = text;
            this.at = at;
        }

        boolean isNumber() {
            return text.matches("[0-9]{1,2}");
        }
    }

    /** Where reading stops. */
    private static final class Fault extends Exception {
        private static final long serialVersionUID = 1L;

        Fault(int code, int at) {
            super(code + " at " + at);
        }
    }

    private final List<Token> tokens = new ArrayList<>();
    private final List<Boolean> images = new ArrayList<>();
    private final List<Boolean> marks = new ArrayList<>();
    private int next;

    private RandomTextsTest(String text) {
        Matcher m = Pattern.compile("[a-z]+|[0-9]+|[^ ]", Pattern.DOTALL).matcher(text);
        while (m.find()) {
            tokens.add(new Token(m.group(), m.start()));
        }
        tokens.add(new Token("", text.length()));
    }

    public static void main(String[] args) {
        int right = 0;
        for (int i = 0; i < TEXTS; i++) {
            String text = randomText();
            String want = new RandomTextsTest(text).read();
            right += want.startsWith("ok") ? 1 : 0;
            Check.promise(3, "load of \"" + text + "\"");
            Check.due("code and position", loaded(text), want);
        }
        Check.promise(3, "load");
        Check.due("there were many right texts and many wrong ones", right > TEXTS / 9 && right < TEXTS / 2, true);
        Check.end();
    }

    // ---- the reader

    private String read() {
        try {
            readAll();
            return "ok " + images.size();
        } catch (Fault f) {
            return f.getMessage();
        }
    }

    private Token take() {
        return tokens.get(Math.min(next++, tokens.size() - 1));
    }

    private boolean ahead(String text) {
        return next < tokens.size() && tokens.get(next).text.equals(text);
    }

    private void readAll() throws Fault {
        literal("machine");
        number(1, 99);
        number(1, 9);
        number(0, 7);
        number(0, 99);
        while (!ahead("")) {
            literal(";");
            readLine(take());
        }
        if (images.isEmpty()) {
            throw new Fault(6, take().at);
        }
    }

    private void readLine(Token first) throws Fault {
        if (first.text.equals("slot")) {
            if (images.size() == 6) {
                throw new Fault(5, first.at);
            }
            images.add(false);
            marks.add(false);
        } else if (first.text.equals("image")) {
            int s = slotOf(images, true);
            images.set(s, true);
            number(0, 99);
            number(1, 99);
            number(0, 99);
            maybe("unsigned");
            maybe("damaged");
        } else if (first.text.equals("mark")) {
            int s = slotOf(marks, false);
            marks.set(s, true);
            number(0, 15);
            number(0, 7);
            maybe("good");
        } else {
            throw new Fault(1, first.at);
        }
    }

    private int slotOf(List<Boolean> told, boolean forImage) throws Fault {
        int at = tokens.get(Math.min(next, tokens.size() - 1)).at;
        int s = number(0, images.size() - 1);
        if (told.get(s)) {
            throw new Fault(3, at);
        }
        if (!forImage && !images.get(s)) {
            throw new Fault(4, at);
        }
        return s;
    }

    private void literal(String word) throws Fault {
        Token t = take();
        if (!t.text.equals(word)) {
            throw new Fault(1, t.at);
        }
    }

    private void maybe(String word) {
        if (ahead(word)) {
            take();
        }
    }

    private int number(int least, int most) throws Fault {
        Token t = take();
        if (!t.isNumber()) {
            throw new Fault(1, t.at);
        }
        int value = Integer.parseInt(t.text);
        if (value < least || value > most) {
            throw new Fault(2, t.at);
        }
        return value;
    }

    // ---- the class

    private static String loaded(String text) {
        BootSlots x = new BootSlots();
        Check.feed(x, text);
        try {
            return "ok " + x.load(text.length());
        } catch (IllegalArgumentException e) {
            return x.parseError() + " at " + x.errorPosition();
        }
    }

    // ---- texts

    private static int below(int bound) {
        seed = seed * 6364136223846793005L + 1442695040888963407L;
        return (int) ((seed >>> 33) % bound);
    }

    private static String randomText() {
        List<String> pieces = new ArrayList<>();
        add(pieces, "machine", 1 + below(99), 1 + below(9), below(8), below(100));
        int slots = below(8) == 0 ? below(8) : 1 + below(6);
        for (int s = 0; s < slots; s++) {
            pieces.add(";");
            pieces.add("slot");
        }
        for (int s = 0; s < slots; s++) {
            if (below(3) > 0) {
                addImage(pieces, s);
            }
        }
        int changes = below(4) == 0 ? 0 : 1 + below(2);
        for (int i = 0; i < changes; i++) {
            change(pieces);
        }
        return joined(pieces);
    }

    private static void addImage(List<String> pieces, int s) {
        int told = below(30) == 0 ? below(8) : s;
        pieces.add(";");
        add(pieces, "image", told, below(100), 1 + below(99), below(100));
        if (below(4) == 0) {
            pieces.add("unsigned");
        }
        if (below(4) == 0) {
            pieces.add("damaged");
        }
        if (below(3) > 0) {
            pieces.add(";");
            add(pieces, "mark", below(30) == 0 ? below(8) : s, below(16), below(8));
            if (below(3) == 0) {
                pieces.add("good");
            }
        }
    }

    private static void add(List<String> pieces, String word, int... numbers) {
        pieces.add(word);
        for (int number : numbers) {
            pieces.add((number < 10 && below(6) == 0 ? "0" : "") + number);
        }
    }

    private static void change(List<String> pieces) {
        int at = below(pieces.size());
        int kind = below(6);
        if (kind == 0 && pieces.size() > 1) {
            pieces.remove(at);
        } else if (kind == 1) {
            pieces.add(at, PIECES[below(PIECES.length)]);
        } else if (kind == 2) {
            pieces.add(at, pieces.get(below(pieces.size())));
        } else if (kind == 3) {
            List<String> left = new ArrayList<>(pieces.subList(0, at + 1));
            pieces.clear();
            pieces.addAll(left);
        } else {
            pieces.set(at, PIECES[below(PIECES.length)]);
        }
    }

    /** With a blank or two between pieces, seldom none, and always one where two would become one. */
    private static String joined(List<String> pieces) {
        StringBuilder text = new StringBuilder(below(9) == 0 ? " " : "");
        boolean tight = below(3) == 0;
        for (String piece : pieces) {
            int end = text.length() - 1;
            boolean runsOn = end >= 0 && piece.matches("[a-z0-9]+") && Character.isLetterOrDigit(text.charAt(end));
            if (runsOn ? below(200) > 0 : !tight) {
                text.append(below(9) == 0 ? "  " : " ");
            }
            text.append(piece);
        }
        return text.append(below(9) == 0 ? "  " : "").toString();
    }
}
