/** Promises 1 to 6: a new object, the input buffer, and texts with and without errors. */
public final class InputTest {
    private static final String LINE = "machine 9 9 1 0";
    private static final String ONE_SLOT = LINE + ";slot";
    private static final String ONE_IMAGE = ONE_SLOT + ";image 0 5 4 0";

    public static void main(String[] args) {
        newObject();
        append();
        load();
        loadForgets();
        errorsAreTold();
        tokens();
        bounds();
        places();
        severalErrors();
        Check.end();
    }

    private static void newObject() {
        Check.promise(1, "a new object");
        BootSlots x = Check.empty();
        Check.due("buffered", x.buffered(), 0);
        Check.due("parseError", x.parseError(), 0);
        Check.due("errorPosition", x.errorPosition(), -1);
        Check.due("undoable", x.undoable(), 0);
        Check.dueThrow("count(0)", Check.STATE, () -> x.count(0));
        Check.dueThrow("power()", Check.STATE, x::power);
        Check.dueThrow("textByte(0)", Check.INDEX, () -> x.textByte(0));
        Check.dueThrow("restore(0)", Check.STATE, () -> x.restore(0));
        Check.dueThrow("undo()", Check.STATE, x::undo);
    }

    private static void append() {
        Check.promise(2, "append");
        BootSlots x = Check.empty();
        // "mach", "ine ", "9 9 ", "1 0;", "slot": each argument tells four bytes, the greatest first
        Check.due("append", x.append(0x6d616368, 0x696e6520, 0x39203920, 0x3120303b, 0x736c6f74), 20);
        Check.due("load", x.load(20), 1);
        Check.due("WATCH", x.count(2), 9);
        for (int i = 1; i <= 30; i++) {
            Check.due("append " + i, x.append(-1, -1, -1, -1, -1), 20 * i);
        }
        Check.due("append to a full buffer", x.append(0, 0, 0, 0, 0), BootSlots.NONE);
        Check.due("buffered", x.buffered(), 600);
        Check.dueThrow("load(601)", Check.INDEX, () -> x.load(601));
        Check.dueThrow("load(600)", Check.ARGUMENT, () -> x.load(600));
        Check.due("append again", x.append(0, 0, 0, 0, 0), 20);
        everyByteCounts();
    }

    private static void everyByteCounts() {
        String text = "machine 9 9 1 0;slot";
        for (int i = 0; i < 20; i++) {
            BootSlots x = Check.empty();
            Check.feed(x, text.substring(0, i) + (char) 200 + text.substring(i + 1));
            Check.dueThrow("a byte 200 at " + i, Check.ARGUMENT, () -> x.load(20));
        }
        BootSlots full = Check.empty();
        StringBuilder long600 = new StringBuilder(ONE_SLOT);
        while (long600.length() < 595) {
            long600.append(' ');
        }
        Check.feed(full, long600 + ";slot");
        Check.due("load of 600 bytes", full.load(600), 2);
    }

    private static void load() {
        Check.promise(3, "load");
        BootSlots x = Check.empty();
        Check.feed(x, ONE_IMAGE + ";slot");
        Check.dueThrow("load(-1)", Check.INDEX, () -> x.load(-1));
        Check.dueThrow("load(41)", Check.INDEX, () -> x.load(41));
        Check.due("buffered, as before", x.buffered(), 40);
        Check.dueThrow("count(0) without a text", Check.STATE, () -> x.count(0));
        Check.due("load(39)", x.load(39), 2);
        Check.due("buffered, emptied", x.buffered(), 0);
        Check.due("counts", Check.counts(x), "2 0 9 9 1 0 0 -1 0 1 0 1 0 0 0 0 0 0 0 0");
        Check.due("load(n) takes the first n bytes", Check.machine(x),
                "machine 9 9 1 0;slot;slot;image 0 5 4 0;mark 0 1 1");
        Check.feed(x, "machine 8 7 6 5;slot;slot;slot nothing of this");
        Check.due("load(30)", x.load(30), 3);
        Check.due("counts", Check.counts(x), "3 0 8 7 6 5 0 -1 0 0 0 0 0 0 0 0 0 0 0 0");
        Check.dueThrow("load(0)", Check.ARGUMENT, () -> x.load(0));
        Check.due("its code", x.parseError(), 1);
        Check.due("its position", x.errorPosition(), 0);
        Check.due("the previous machine stays", x.count(0), 3);
    }

    private static void loadForgets() {
        BootSlots x = Check.of(ONE_IMAGE);
        x.power();
        x.tick(5);
        x.save(0);
        x.save(1);
        String before = Check.all(x);
        Check.feed(x, "machine 1 1 1");
        Check.dueThrow("load with an error", Check.ARGUMENT, () -> x.load(13));
        Check.due("buffered, emptied", x.buffered(), 0);
        Check.due("all stays behind an error", Check.all(x), before);
        Check.due("undoable stays", x.undoable(), 2);
        Check.due("what is saved stays", x.restore(1), 5);
        x.cut();
        Check.feed(x, ONE_IMAGE);
        Check.due("load", x.load(ONE_IMAGE.length()), 1);
        Check.due("nothing can be undone", x.undoable(), 0);
        Check.dueThrow("undo", Check.STATE, x::undo);
        Check.dueThrow("no state is saved in 0", Check.STATE, () -> x.restore(0));
        Check.dueThrow("no state is saved in 1", Check.STATE, () -> x.restore(1));
        Check.due("nothing is left", Check.all(x), Check.all(Check.of(ONE_IMAGE)));
    }

    private static void errorsAreTold() {
        Check.promise(4, "parseError");
        BootSlots x = Check.empty();
        Check.feed(x, LINE);
        Check.dueThrow("load", Check.ARGUMENT, () -> x.load(15));
        Check.due("parseError", x.parseError(), 6);
        Check.promise(5, "errorPosition");
        Check.due("errorPosition", x.errorPosition(), 15);
        Check.dueThrow("load(-1)", Check.INDEX, () -> x.load(-1));
        Check.dueThrow("load(1)", Check.INDEX, () -> x.load(1));
        Check.due("both stay behind IndexOutOfBoundsException", x.parseError() * 100 + x.errorPosition(), 615);
        Check.feed(x, ONE_SLOT);
        Check.due("both stay behind append", x.parseError() * 100 + x.errorPosition(), 615);
        Check.promise(6, "buffered");
        Check.due("buffered", x.buffered(), 20);
        Check.feed(x, "x");
        Check.due("buffered", x.buffered(), 40);
        x.load(20);
        Check.due("buffered", x.buffered(), 0);
        Check.promise(4, "parseError");
        Check.due("parseError", x.parseError(), 0);
        Check.promise(5, "errorPosition");
        Check.due("errorPosition", x.errorPosition(), BootSlots.NONE);
    }

    /** Loads a text that has an error. */
    private static void error(String text, int code, int position) {
        BootSlots x = Check.empty();
        Check.feed(x, text);
        Check.dueThrow("load of " + text, Check.ARGUMENT, () -> x.load(text.length()));
        Check.due("code of " + text, x.parseError(), code);
        Check.due("position of " + text, x.errorPosition(), position);
    }

    private static void fine(String text, String written) {
        Check.due("machine of " + text, Check.machine(Check.of(text)), written);
    }

    private static void tokens() {
        Check.promise(3, "load, tokens");
        fine("machine9 9 1 0;slot;image0 5 4 0", ONE_IMAGE + ";mark 0 1 1");
        fine("  machine  09 9  01 00 ; slot;image 00 05 04 0  ", ONE_IMAGE + ";mark 0 1 1");
        fine(ONE_IMAGE + "unsigned damaged;mark 0 15 7good",
                ONE_IMAGE + " unsigned damaged;mark 0 15 7 good");
        fine(ONE_IMAGE + " damaged;mark 0 0 0", ONE_IMAGE + " damaged;mark 0 0 0");
        fine(ONE_IMAGE + " unsigned", ONE_IMAGE + " unsigned;mark 0 1 1");
        error("machine 009 9 1 0;slot", 1, 8);
        error("machine 9 9 1 000;slot", 1, 14);
        error("machine 9 9 1 0 0;slot", 1, 16);
        error("machine 99 9 1 0,slot", 1, 16);
        error("machine 9 9 1 0\tslot", 1, 15);
        error("machines 9 9 1 0;slot", 1, 0);
        error("machin 9 9 1 0;slot", 1, 0);
        error("Machine 9 9 1 0;slot", 1, 0);
        error("mAchine 9 9 1 0;slot", 1, 0);
        error("macline 9 9 1 0;slot", 1, 0);
        error("machinemachine 9", 1, 0);
        error("machineslot 9", 1, 0);
        error("9 machine", 1, 0);
        error("   ", 1, 3);
        error(";", 1, 0);
        error("machine", 1, 7);
        error("machine nine", 1, 8);
        error("machine 9 9 1", 1, 13);
        error("machine 9 9 1 ", 1, 14);
        error("machine 9 9 1;slot", 1, 13);
        error("machine 9 9 1 0;", 1, 16);
        error("machine 9 9 1 0;;slot", 1, 16);
        error("machine 9 9 1 0 slot", 1, 16);
        error(ONE_SLOT + "s", 1, 16);
        error(ONE_SLOT + "a", 1, 16);
        error(ONE_SLOT + "z", 1, 16);
        error(ONE_SLOT + "0", 1, 20);
        error(ONE_SLOT + "9", 1, 20);
        error("xachine 9 9 1 0;slot", 1, 0);
        error("machinx 9 9 1 0;slot", 1, 0);
        error(LINE + ";xlot", 1, 16);
        error(ONE_SLOT + ";xmage 0 5 4 0", 1, 21);
        error(ONE_IMAGE + ";xark 0 1 1", 1, 35);
        error(ONE_IMAGE + " xnsigned", 1, 35);
        error(ONE_IMAGE + " xamaged", 1, 35);
        error(ONE_IMAGE + ";mark 0 1 1 xood", 1, 46);
        error(ONE_SLOT + ";slots", 1, 21);
        error(ONE_SLOT + ";", 1, 21);
        error(ONE_SLOT + "; ", 1, 22);
        error(ONE_SLOT + ";image", 1, 26);
        error(ONE_SLOT + ";image 0 5 4", 1, 32);
        error(ONE_SLOT + ";image 0 5 4;", 1, 32);
        error(ONE_SLOT + ";image x", 1, 27);
        error(ONE_SLOT + ";image 000 5 4 0", 1, 27);
        error(ONE_SLOT + ";imagination", 1, 21);
        error(ONE_SLOT + ";unsigned", 1, 21);
        error(ONE_SLOT + ";machine 9 9 1 0", 1, 21);
        error(ONE_IMAGE + " 0", 1, 35);
        error(ONE_IMAGE + " good", 1, 35);
        error(ONE_IMAGE + " unsigne", 1, 35);
        error(ONE_IMAGE + " damaged unsigned", 1, 43);
        error(ONE_IMAGE + " unsigned unsigned", 1, 44);
        error(ONE_IMAGE + " damaged damaged", 1, 43);
        error(ONE_IMAGE + ";mark 0 1", 1, 43);
        error(ONE_IMAGE + ";mark 0 1 good", 1, 44);
        error(ONE_IMAGE + ";mark 0 1 1 bad", 1, 46);
        error(ONE_IMAGE + ";mark 0 1 1 good good", 1, 51);
        error(ONE_IMAGE + ";mark 0 1 1 1", 1, 46);
        for (int b = 0; b < 256; b++) {
            boolean starts = b == ' ' || b == ';' || b >= '0' && b <= '9' || b >= 'a' && b <= 'z';
            if (!starts) {
                error(ONE_SLOT + (char) b, 1, 20);
            }
        }
    }

    private static void bounds() {
        Check.promise(3, "load, bounds");
        fine("machine 99 9 7 99;slot", "machine 99 9 7 99;slot");
        fine("machine 1 1 0 0;slot", "machine 1 1 0 0;slot");
        error("machine 0 9 1 0;slot", 2, 8);
        error("machine 9 0 1 0;slot", 2, 10);
        error("machine 9 10 1 0;slot", 2, 10);
        error("machine 9 9 8 0;slot", 2, 12);
        fine(ONE_SLOT + ";image 0 99 99 99", ONE_SLOT + ";image 0 99 99 99;mark 0 1 1");
        fine(ONE_SLOT + ";image 0 0 1 0", ONE_SLOT + ";image 0 0 1 0;mark 0 1 1");
        error(ONE_SLOT + ";image 0 0 0 0", 2, 31);
        error(ONE_SLOT + ";image 1 0 1 0", 2, 27);
        error(LINE + ";image 0 0 1 0;slot", 2, 22);
        error(LINE + ";mark 0 1 1", 2, 21);
        error(ONE_IMAGE + ";mark 1 1 1", 2, 40);
        error(ONE_IMAGE + ";mark 0 16 1", 2, 42);
        error(ONE_IMAGE + ";mark 0 1 8", 2, 44);
        error(ONE_IMAGE + ";mark 6 1 1", 2, 40);
        error(ONE_IMAGE + ";mark 99 1 1", 2, 40);
    }

    private static void places() {
        Check.promise(3, "load, lines in their order");
        error(ONE_IMAGE + ";image 0 5 4 0", 3, 41);
        error(ONE_IMAGE + ";mark 0 1 1;mark 0 1 1", 3, 51);
        error(ONE_SLOT + ";mark 0 1 1", 4, 26);
        error(ONE_IMAGE + ";slot;mark 1 1 1", 4, 45);
        fine(ONE_SLOT + ";slot;image 1 1 1 1;mark 1 2 2;image 0 3 3 3;mark 0 4 4 good;slot",
                LINE + ";slot;slot;slot;image 0 3 3 3;mark 0 4 4 good;image 1 1 1 1;mark 1 2 2");
        String six = LINE + ";slot;slot;slot;slot;slot;slot";
        fine(six + ";image 5 1 1 1", six + ";image 5 1 1 1;mark 5 1 1");
        error(six + ";slot", 5, 46);
        error(six + ";image 5 1 1 1;slot;;", 5, 60);
        error(six + ";image 6 1 1 1", 2, 52);
        error(LINE, 6, 15);
        error(LINE + "  ", 6, 17);
    }

    private static void severalErrors() {
        Check.promise(3, "load, several errors");
        error("machine 0 0 8;", 2, 8);
        error(ONE_IMAGE + ";image 0 0 0 0", 3, 41);
        error(ONE_SLOT + ";mark 9 99 9", 2, 26);
        error(ONE_SLOT + ";mark 0 99 9", 4, 26);
        error(LINE + ";", 1, 16);
        error("machine 9 9", 1, 11);
        error("machine 100", 1, 8);
        error("machine machine 0", 1, 8);
        // an error behind the first one tells nothing, and leaves no trace in the next text
        BootSlots x = Check.empty();
        Check.feed(x, ONE_IMAGE + ";mark 0 9 9");
        Check.dueThrow("load", Check.ARGUMENT, () -> x.load(45));
        Check.feed(x, ONE_IMAGE + ";mark 0 9 6");
        Check.due("load", x.load(45), 1);
        Check.due("machine", Check.machine(x), ONE_IMAGE + ";mark 0 9 6");
    }
}
