/** The boundary cases of promises 1 to 6: a new object, the input buffer, load and its errors. */
final class InputEdges extends Edge {
    private static final String LINE = "machine 9 9 1 0";
    private static final int BLANKS = 0x20202020;

    static void all() {
        newObject();
        appendedBytes();
        appendAnswers();
        loadTakes();
        loadReplaces();
        loadThrows();
        parseError();
        errorPosition();
        buffered();
    }

    private static void newObject() {
        promise(1, "Creates an object without a machine and with an empty input buffer.");
        due("all", everything(new BootSlots()), "0 0 -1 | text  | no machine 0");
        refused("a byte of the empty buffer", Check.INDEX, BootSlots::new, x -> x.load(1));
        BootSlots x = new BootSlots();
        Check.dueThrow("no byte of the empty buffer", Check.ARGUMENT, () -> x.load(0));
        due("its error", x.parseError() + " at " + x.errorPosition(), "1 at 0");
        Check.due("another object has nothing of it", everything(new BootSlots()), "0 0 -1 | text  | no machine 0");
    }

    /** The text "machine 9 9 1 0;slot" in twenty bytes, one of which is another one. */
    private static BootSlots withByte(int index, int b) {
        int[] four = {0x6d616368, 0x696e6520, 0x39203920, 0x3120303b, 0x736c6f74};
        int shift = 24 - index % 4 * 8;
        four[index / 4] = four[index / 4] & ~(255 << shift) | b << shift;
        BootSlots x = new BootSlots();
        x.append(four[0], four[1], four[2], four[3], four[4]);
        return x;
    }

    private static void appendedBytes() {
        promise(2, "Appends twenty bytes to the input buffer: the four bytes of each argument in order, the most"
                + " significant byte first.");
        due("a text of twenty bytes", withByte(0, 'm').load(20), 1);
        String[] arguments = {"a", "b", "c", "d", "e"};
        for (int i = 0; i < 20; i++) {
            int argument = i / 4;
            promise(2, "- `" + arguments[argument] + "`: bytes " + argument * 4 + " to " + (argument * 4 + 3));
            for (int b : new int[] {0, 127, 128, 255}) {
                BootSlots x = withByte(i, b);
                Check.dueThrow("byte " + i + " is " + b, Check.ARGUMENT, () -> x.load(20));
                due("code and position with byte " + i, x.parseError() + " at " + x.errorPosition(), "1 at " + tokenAt(i));
            }
        }
    }

    /** Where the error is found if the byte at an index starts no token: words are torn, blanks are not. */
    private static int tokenAt(int index) {
        if (index > 0 && index < 7) {
            return 0;
        }
        return index > 16 ? 16 : index;
    }

    private static void appendAnswers() {
        promise(2, "Returns the number of bytes in the buffer; NONE if there would be more than 600, in which case"
                + " nothing is appended.");
        BootSlots x = new BootSlots();
        for (int i = 1; i <= 29; i++) {
            due("append " + i, x.append(BLANKS, BLANKS, BLANKS, BLANKS, BLANKS), 20 * i);
        }
        due("the last one", x.append(0x6d616368, 0x696e6520, 0x39203920, 0x3120303b, 0x736c6f74), 600);
        due("one more", x.append(-1, -1, -1, -1, -1), -1);
        due("and one more", x.append(-1, -1, -1, -1, -1), -1);
        due("what is in the buffer", x.buffered(), 600);
        Check.dueThrow("byte 600 is not there", Check.INDEX, () -> x.load(601));
        due("nothing is overwritten", x.load(600), 1);
        due("behind load", x.append(BLANKS, BLANKS, BLANKS, BLANKS, BLANKS), 20);
    }

    private static BootSlots fed(String text) {
        BootSlots x = new BootSlots();
        Check.feed(x, text);
        return x;
    }

    private static void loadTakes() {
        promise(3, "Parses the first n bytes of the input buffer as a machine and empties the buffer, even if the parse"
                + " fails.");
        promise(3, "- `n`: number of bytes to parse");
        BootSlots part = fed(LINE + ";slot;slot");
        due("20 of 25 bytes", part.load(20) + " " + part.buffered(), "1 0");
        BootSlots more = fed(LINE + ";slot;slot");
        due("25 bytes", more.load(25) + " " + more.buffered(), "2 0");
        BootSlots cut = fed(LINE + ";slot;slot");
        Check.dueThrow("24 bytes", Check.ARGUMENT, () -> cut.load(24));
        due("code, position, buffer", cut.parseError() + " " + cut.errorPosition() + " " + cut.buffered(), "1 21 0");
        BootSlots none = fed(LINE + ";slot");
        Check.dueThrow("0 bytes", Check.ARGUMENT, () -> none.load(0));
        due("code, position, buffer behind 0", none.parseError() + " " + none.errorPosition() + " " + none.buffered(),
                "1 0 0");
        Check.dueThrow("a byte of what was in it", Check.INDEX, () -> none.load(1));
        BootSlots all = fed(LINE + ";slot");
        due("all bytes", all.load(20), 1);
        promise(3, "Returns the number of slots.");
        for (int slots = 1; slots <= 6; slots++) {
            String text = text(slots, "9 9 1 0");
            due(slots + " slots", fed(text).load(text.length()), slots);
        }
    }

    private static void loadReplaces() {
        promise(3, "On success this replaces the previous one, the machine is off, the time is 0, there were no boots,"
                + " nothing can be undone, and no state is saved.");
        BootSlots x = busy();
        x.save(0);
        String rest = " | saved nothing | saved nothing";
        due("20 bytes that wait in the buffer", x.load(20), 1);
        due("all", everything(x), "0 0 -1 | text 5:2/0! 7:9/0* 3:4/1 - | " + Check.all(of(1, "9 9 1 0")) + rest);
    }

    private static void loadThrows() {
        promise(3, "Throws `IndexOutOfBoundsException` if n is negative or greater than the number of bytes in the buffer"
                + " (then the buffer, parseError() and errorPosition() stay)");
        int[] wrong = {-1, 21, LEAST, GREATEST};
        for (int n : wrong) {
            refused("load(" + n + ") of 20 bytes", Check.INDEX, Edge::busy, x -> x.load(n));
            refused("load(" + n + ") of 20 bytes, no machine", Check.INDEX, () -> fed(LINE + ";slot"), x -> x.load(n));
        }
        refused("load(1) of no bytes", Check.INDEX, BootSlots::new, x -> x.load(1));
        takes("load(20) of 20 bytes", () -> fed(LINE + ";slot"), x -> x.load(20));
        promise(3, "Throws `IllegalArgumentException` if the text has an error; the previous machine stays");
        String told = everything(busy());
        BootSlots x = busy();
        Check.dueThrow("load(19) of 20 bytes", Check.ARGUMENT, () -> x.load(19));
        due("machine, changes, saved states and text stay", everything(x), told.replaceFirst("^20 1 8 ", "0 1 16 "));
        BootSlots none = fed(LINE + ";slot");
        Check.dueThrow("load(15) without a machine", Check.ARGUMENT, () -> none.load(15));
        due("there is none then", everything(none), "0 6 15 | text  | no machine 0");
    }

    private static void parseError() {
        promise(4, "Returns the parse error code of the latest call of load that did not throw"
                + " IndexOutOfBoundsException, 0 if that succeeded or if there was none.");
        BootSlots x = new BootSlots();
        due("none", x.parseError(), 0);
        Check.dueThrow("load(1)", Check.INDEX, () -> x.load(1));
        due("none but with IndexOutOfBoundsException", x.parseError(), 0);
        String[] texts = {"x", "machine 0", text(1, "9 9 1 0", "image 0 1 1 1", "image 0 1 1 1"),
            text(1, "9 9 1 0", "mark 0 1 1"), text(7, "9 9 1 0"), LINE};
        for (int i = 0; i < 6; i++) {
            String text = texts[i];
            Check.feed(x, text);
            Check.dueThrow("load of " + text, Check.ARGUMENT, () -> x.load(text.length()));
            due("code", x.parseError(), i + 1);
            Check.dueThrow("load(-1)", Check.INDEX, () -> x.load(-1));
            due("code still", x.parseError(), i + 1);
        }
        Check.feed(x, LINE + ";slot");
        due("code until load", x.parseError(), 6);
        x.load(20);
        due("success", x.parseError(), 0);
        Check.dueThrow("load(1)", Check.INDEX, () -> x.load(1));
        due("success still", x.parseError(), 0);
    }

    private static void errorPosition() {
        promise(5, "Returns the position of that error; NONE if parseError() is 0.");
        BootSlots x = new BootSlots();
        due("none", x.errorPosition(), -1);
        Check.dueThrow("load(1)", Check.INDEX, () -> x.load(1));
        due("none still", x.errorPosition(), -1);
        Check.feed(x, "x");
        Check.dueThrow("load of x", Check.ARGUMENT, () -> x.load(1));
        due("the first byte", x.errorPosition(), 0);
        Check.feed(x, LINE);
        Check.dueThrow("load without a slot", Check.ARGUMENT, () -> x.load(15));
        due("the end", x.errorPosition(), 15);
        Check.feed(x, LINE + ";slot");
        x.load(20);
        due("success", x.errorPosition(), -1);
    }

    private static void buffered() {
        promise(6, "Returns the number of bytes in the input buffer.");
        BootSlots x = new BootSlots();
        due("empty", x.buffered(), 0);
        x.append(0, 0, 0, 0, 0);
        due("bytes 0 count", x.buffered(), 20);
        for (int i = 0; i < 40; i++) {
            x.append(0, 0, 0, 0, 0);
        }
        due("full", x.buffered(), 600);
        Check.dueThrow("load(601)", Check.INDEX, () -> x.load(601));
        due("full still", x.buffered(), 600);
        Check.dueThrow("load(0)", Check.ARGUMENT, () -> x.load(0));
        due("empty again", x.buffered(), 0);
    }
}
