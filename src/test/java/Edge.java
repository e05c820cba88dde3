/** What the tests of boundary cases share: which sentence they hold, what is taken, what is refused. */
abstract class Edge {
    interface Maker {
        BootSlots make();
    }

    interface Call {
        Object on(BootSlots x);
    }

    /** A call with one number that is looked at: a slot, or ticks. */
    interface NumberCall {
        Object on(BootSlots x, int number);
    }

    static final String NO_TEXT = "Throws `IllegalStateException` if no text was loaded";
    static final String NO_SLOT = "Throws `IndexOutOfBoundsException` if there is no such slot";
    static final String SLOT_NUMBER = "- `s`: number of a slot";
    static final String TICKS = "- `ticks`: 0 to 300";
    static final String WRONG_TICKS = "Throws `IllegalArgumentException` if ticks is out of range";

    static final int LEAST = Integer.MIN_VALUE;
    static final int GREATEST = Integer.MAX_VALUE;

    // ---- which words of the document the next answers hold

    static void section(int number, String words) {
        hold("section " + number, words);
    }

    static void promise(int number, String words) {
        hold("promise " + number, words);
    }

    private static void hold(String part, String words) {
        Check.about(part + ", \"" + words + "\"");
        Doc.hold(part, words);
    }

    // ---- objects

    /** A text: the numbers of the machine, so many slots, and lines. */
    static String text(int slots, String numbers, String... lines) {
        StringBuilder text = new StringBuilder("machine ").append(numbers);
        for (int i = 0; i < slots; i++) {
            text.append(";slot");
        }
        for (String line : lines) {
            text.append(';').append(line);
        }
        return text.toString();
    }

    static BootSlots of(int slots, String numbers, String... lines) {
        return Check.of(text(slots, numbers, lines));
    }

    /** The same, with the power on. */
    static BootSlots on(int slots, String numbers, String... lines) {
        BootSlots x = of(slots, numbers, lines);
        x.power();
        return x;
    }

    /** Six slots with images of which none can be booted; the machine is in rescue. */
    static BootSlots six() {
        return on(6, "9 9 1 0", "image 0 5 4 0", "mark 0 0 1", "image 1 5 4 0", "mark 1 0 1", "image 2 5 4 0",
                "mark 2 0 1", "image 3 5 4 0", "mark 3 0 1", "image 4 5 4 0", "mark 4 0 1", "image 5 5 4 0",
                "mark 5 0 1");
    }

    /** One slot with an image that cannot be booted; the machine is in rescue. */
    static BootSlots one() {
        return on(1, "9 9 1 0", "image 0 5 4 0", "mark 0 0 1");
    }

    /**
     * All at once: slot 1 of four runs, an install is on for slot 3, there are four changes, state 1 is
     * saved, a text was written, the buffer holds twenty bytes, the latest load told an error.
     */
    static BootSlots busy() {
        BootSlots x = Check.of(NowTest.FOUR);
        Check.feed(x, "machine x");
        try {
            x.load(9);
        } catch (IllegalArgumentException e) {
            Check.feed(x, "machine 9 9 1 0;slot");
        }
        x.power();
        x.tick(2);
        x.save(1);
        x.begin(3, 9, 4, 0, 9);
        x.tick(1);
        x.writeSlots();
        return x;
    }

    // ---- what is told

    static void due(String what, Object got, Object want) {
        Check.due(what, got, want);
    }

    /** All that the face tells; the object is spent by that, its changes are undone, its states restored. */
    static String everything(BootSlots x) {
        StringBuilder told = new StringBuilder();
        told.append(x.buffered()).append(' ').append(x.parseError()).append(' ').append(x.errorPosition());
        told.append(" | text ").append(written(x));
        if (!isLoaded(x)) {
            return told.append(" | no machine ").append(x.undoable()).toString();
        }
        told.append(" | ").append(Check.all(x));
        for (int left = x.undoable(); left > 0; left--) {
            told.append(" | undo ").append(x.undo()).append(' ').append(Check.counts(x));
        }
        return told.append(" | saved ").append(saved(x, 0)).append(" | saved ").append(saved(x, 1)).toString();
    }

    /** The text that was written last, up to where it ends. */
    static String written(BootSlots x) {
        StringBuilder text = new StringBuilder();
        try {
            for (int i = 0; i < 600; i++) {
                text.append((char) x.textByte(i));
            }
        } catch (IndexOutOfBoundsException e) {
            return text.toString();
        }
        return text.toString();
    }

    private static boolean isLoaded(BootSlots x) {
        try {
            return x.count(0) > 0;
        } catch (IllegalStateException e) {
            return false;
        }
    }

    private static String saved(BootSlots x, int slot) {
        try {
            return x.restore(slot) + " " + Check.counts(x);
        } catch (IllegalStateException e) {
            return "nothing";
        }
    }

    // ---- what is taken and what is refused

    static void takes(String what, Maker maker, Call call) {
        BootSlots x = maker.make();
        Object got;
        try {
            call.on(x);
            got = "taken";
        } catch (RuntimeException e) {
            got = e.getClass();
        }
        due(what, got, "taken");
    }

    /** The call throws just that, and all that can be told is as if it had not been. */
    static void refused(String what, Class<? extends RuntimeException> want, Maker maker, Call call) {
        String before = everything(maker.make());
        BootSlots x = maker.make();
        Check.dueThrow(what, want, () -> call.on(x));
        due("nothing has changed behind " + what, everything(x), before);
    }

    /** The call answers that, and all that can be told is as if it had not been. */
    static void asks(String what, Maker maker, Call call, Object want) {
        String before = everything(maker.make());
        BootSlots x = maker.make();
        due(what, call.on(x), want);
        due("nothing has changed behind " + what, everything(x), before);
    }

    /** A text that is not taken: with which code, at which position. */
    static void wrongText(String text, int code, int position) {
        BootSlots x = new BootSlots();
        Check.feed(x, text);
        Check.dueThrow("load of " + text, Check.ARGUMENT, () -> x.load(text.length()));
        due("code and position of " + text, x.parseError() + " at " + x.errorPosition(), code + " at " + position);
    }

    /** A text that is taken, and what writeMachine tells of it. */
    static void rightText(String text, String want) {
        due("the machine of " + text, Check.machine(Check.of(text)), want);
    }

    // ---- sentences that many promises share

    /** Without a text the call throws that, whatever else is wrong with it. */
    static void needsText(int number, String what, Call... calls) {
        promise(number, NO_TEXT);
        for (Call call : calls) {
            refused(what + ", no load", Check.STATE, BootSlots::new, call);
            refused(what + ", a load with an error", Check.STATE, Edge::failed, call);
        }
    }

    private static BootSlots failed() {
        BootSlots x = new BootSlots();
        Check.feed(x, "machine 9 9 1 0");
        Check.dueThrow("load", Check.ARGUMENT, () -> x.load(15));
        return x;
    }

    /** Slots 0 and 5 of six are taken, and slot 0 of one; their neighbours are not. */
    static void needsSlot(int number, String what, NumberCall call) {
        promise(number, SLOT_NUMBER);
        takes(what + " of slot 0 of six", Edge::six, x -> call.on(x, 0));
        takes(what + " of slot 5 of six", Edge::six, x -> call.on(x, 5));
        takes(what + " of slot 0 of one", Edge::one, x -> call.on(x, 0));
        promise(number, NO_SLOT);
        noSlot(what, call);
    }

    static void noSlot(String what, NumberCall call) {
        int[] wrong = {-1, 6, LEAST, GREATEST};
        for (int s : wrong) {
            refused(what + " of slot " + s + " of six", Check.INDEX, Edge::six, x -> call.on(x, s));
        }
        refused(what + " of slot 1 of one", Check.INDEX, Edge::one, x -> call.on(x, 1));
        refused(what + " of slot -1 of one", Check.INDEX, Edge::one, x -> call.on(x, -1));
        refused(what + " of slot 4 of four", Check.INDEX, Edge::busy, x -> call.on(x, 4));
    }

    /** 0 and 300 ticks are taken, -1 and 301 are not. */
    static void needsTicks(int number, String what, NumberCall call) {
        promise(number, TICKS);
        takes(what + " with 0 ticks", Edge::busy, x -> call.on(x, 0));
        takes(what + " with 300 ticks", Edge::busy, x -> call.on(x, 300));
        promise(number, WRONG_TICKS);
        wrongNumbers(what, Edge::busy, call, -1, 301, LEAST, GREATEST);
    }

    static void wrongNumbers(String what, Maker maker, NumberCall call, int... numbers) {
        for (int number : numbers) {
            refused(what + " with " + number, Check.ARGUMENT, maker, x -> call.on(x, number));
        }
    }
}
