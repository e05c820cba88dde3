/** What all tests of the project use: answers that are due, exceptions that are due, texts. */
final class Check {
    interface Call {
        Object run();
    }

    static final Class<IllegalStateException> STATE = IllegalStateException.class;
    static final Class<IllegalArgumentException> ARGUMENT = IllegalArgumentException.class;
    static final Class<IndexOutOfBoundsException> INDEX = IndexOutOfBoundsException.class;

    private static int wrong;
    private static int asked;
    private static String promise = "";

    private Check() {
    }

    /** Names the promise that the next answers are about. */
    static void promise(int number, String name) {
        about("promise " + number + " (" + name + ")");
    }

    /** Names the words of the document that the next answers are about. */
    static void about(String words) {
        promise = words;
    }

    static void due(String what, Object got, Object want) {
        asked++;
        if (!got.equals(want)) {
            wrong++;
            System.out.println(promise + ": " + what + " answered " + got + ", due is " + want);
        }
    }

    /** The exception must be of this very class. */
    static void dueThrow(String what, Class<? extends RuntimeException> want, Call call) {
        Object got;
        try {
            got = "answered " + call.run();
        } catch (RuntimeException e) {
            got = e.getClass();
        }
        due(what, got, want);
    }

    static BootSlots empty() {
        return new BootSlots();
    }

    /** A new object that has loaded a text without errors. */
    static BootSlots of(String text) {
        BootSlots x = new BootSlots();
        feed(x, text);
        x.load(text.length());
        return x;
    }

    /** Appends a text, filled up with blanks to a multiple of twenty bytes. */
    static void feed(BootSlots x, String text) {
        for (int i = 0; i < text.length(); i += 20) {
            x.append(four(text, i), four(text, i + 4), four(text, i + 8), four(text, i + 12),
                    four(text, i + 16));
        }
    }

    private static int four(String text, int from) {
        int four = 0;
        for (int i = from; i < from + 4; i++) {
            four = four << 8 | (i < text.length() ? text.charAt(i) & 255 : ' ');
        }
        return four;
    }

    /** The text that was written last, of which a write call answered the length. */
    static String text(BootSlots x, int length) {
        StringBuilder written = new StringBuilder();
        for (int i = 0; i < length; i++) {
            written.append((char) x.textByte(i));
        }
        dueThrow("textByte behind the text", INDEX, () -> x.textByte(length));
        return written.toString();
    }

    static String slots(BootSlots x) {
        return text(x, x.writeSlots());
    }

    static String boots(BootSlots x) {
        return text(x, x.writeBoots());
    }

    static String machine(BootSlots x) {
        return text(x, x.writeMachine());
    }

    /** All that count(int) tells, with blanks between. */
    static String counts(BootSlots x) {
        StringBuilder told = new StringBuilder();
        for (int what = 0; what < 20; what++) {
            told.append(what == 0 ? "" : " ").append(x.count(what));
        }
        return told.toString();
    }

    /** All that is told of the machine as it is; what differs here differs by some call of the face. */
    static String all(BootSlots x) {
        StringBuilder told = new StringBuilder(counts(x));
        for (int s = 0; s < x.count(0); s++) {
            told.append(" |");
            for (int what = 0; what < 9; what++) {
                told.append(' ').append(x.slot(s, what));
            }
            for (int what = 0; what < 5; what++) {
                told.append(' ').append(x.image(s, what));
            }
        }
        told.append(" | install");
        for (int what = 0; what < 4; what++) {
            told.append(' ').append(x.install(what));
        }
        for (int ago = 0; ago < 13; ago++) {
            for (int what = 0; what < 4; what++) {
                told.append(what == 0 ? " | " : " ").append(x.boot(ago, what));
            }
        }
        return told.toString();
    }

    static void end() {
        System.out.println(wrong == 0 ? asked + " answers are as due" : wrong + " answers are not as due");
        if (wrong != 0) {
            System.exit(1);
        }
    }
}
