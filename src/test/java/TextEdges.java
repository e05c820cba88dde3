/** The boundary cases of promises 45 to 50: floats and texts. */
final class TextEdges extends Edge {
    private static final String BYTES = "Returns the number of bytes of the text.";

    static void all() {
        successShare();
        meanBoot();
        writeSlots();
        writeBoots();
        writeMachine();
        replaces();
        textByte();
    }

    private static void successShare() {
        promise(45, "Returns the number of successes so far, converted to float, divided by that of the tries so far,"
                + " converted to float; 0.0f without tries.");
        due("without tries", of(1, "9 9 1 0").successShare(), 0.0f);
        due("GOOD: without tries", on(1, "9 9 1 0", "image 0 5 4 0", "mark 0 1 7 good").successShare(), 0.0f);
        BootSlots x = on(1, "9 1 7 0", "image 0 5 4 6", "mark 0 1 7");
        due("none of one", x.successShare(), 0.0f);
        x.tick(4);
        due("one of one", x.successShare(), 1.0f);
        x.tick(2);
        due("one of two", x.successShare(), 0.5f);
        x.reboot();
        due("one of three is no double", x.successShare(), 1.0f / 3.0f);
        x.tick(4);
        due("two of three", x.successShare(), 2.0f / 3.0f);
        asks("none of two", Edge::busy, BootSlots::successShare, 0.0f);
        needsText(45, "successShare", BootSlots::successShare);
    }

    private static void meanBoot() {
        promise(46, "Returns the time, converted to double, divided by the number of boots so far, converted to double; 0.0"
                + " without boots.");
        due("without boots", of(1, "9 9 1 0").meanBoot(), 0.0);
        due("one boot at the time 0", on(1, "9 9 1 0").meanBoot(), 0.0);
        BootSlots x = of(1, "9 9 1 0");
        for (int i = 0; i < 33; i++) {
            x.tick(300);
        }
        x.tick(99);
        due("without boots at the last time", x.meanBoot(), 0.0);
        x.power();
        due("one boot at the last time", x.meanBoot(), 9999.0);
        x.reboot();
        due("two boots", x.meanBoot(), 4999.5);
        for (int i = 0; i < 12; i++) {
            x.reboot();
        }
        due("more than are kept", x.meanBoot(), 9999.0 / 14.0);
        asks("two boots at the time 3", Edge::busy, BootSlots::meanBoot, 1.5);
        needsText(46, "meanBoot", BootSlots::meanBoot);
    }

    private static void writeSlots() {
        promise(47, "Writes the slots, by numbers, as a text that replaces the text that was written before: for each one a"
                + " hyphen (45) if it is empty, otherwise its VERSION, a colon (58), PRIORITY, a slash (47), TRIES, then an"
                + " exclamation mark (33) if it is GOOD, then a star (42) if it runs; with a space between two. Numbers"
                + " have no leading zeros.");
        due("one empty slot", Check.slots(of(1, "9 9 1 0")), "-");
        due("six empty slots", Check.slots(of(6, "9 9 1 0")), "- - - - - -");
        due("the least numbers", Check.slots(of(1, "9 9 1 0", "image 0 0 1 0", "mark 0 0 0")), "0:0/0");
        due("the greatest numbers", Check.slots(of(1, "9 9 1 0", "image 0 99 1 0", "mark 0 15 7 good")), "99:15/7!");
        due("9 and 10", Check.slots(of(2, "9 9 1 0", "image 0 9 1 0", "mark 0 9 1", "image 1 10 1 0", "mark 1 10 1")),
                "9:9/1 10:10/1");
        due("it runs", Check.slots(on(1, "9 9 1 0", "image 0 5 4 0")), "5:1/0*");
        due("it is GOOD and runs", Check.slots(on(1, "9 9 1 0", "image 0 5 4 0", "mark 0 1 1 good")), "5:1/1!*");
        BootSlots x = on(6, "9 9 1 0", "image 5 5 4 0");
        due("the last one runs", Check.slots(x), "- - - - - 5:1/0*");
        x.cut();
        due("the power is cut", Check.slots(x), "- - - - - 5:1/0");
        BootSlots bytes = on(2, "9 9 1 0", "image 0 5 4 0", "mark 0 1 1 good");
        bytes.writeSlots();
        int[] want = {'5', 58, '1', 47, '1', 33, 42, ' ', 45};
        for (int i = 0; i < want.length; i++) {
            due("byte " + i, bytes.textByte(i), want[i]);
        }
        promise(47, BYTES);
        due("the shortest one", of(1, "9 9 1 0").writeSlots(), 1);
        BootSlots most = on(6, "9 9 1 0", greatest());
        due("the longest one", most.writeSlots(), 6 * 9);
        needsText(47, "writeSlots", BootSlots::writeSlots);
    }

    /** Six images with the greatest numbers, all GOOD. */
    private static String[] greatest() {
        String[] lines = new String[12];
        for (int s = 0; s < 6; s++) {
            lines[2 * s] = "image " + s + " 99 99 99";
            lines[2 * s + 1] = "mark " + s + " 15 7 good";
        }
        return lines;
    }

    private static void writeBoots() {
        promise(48, "Writes the boots that are kept, the earliest one first, as a text that replaces the text that was written"
                + " before: for each one its time, a letter by its cause (p, r, c, h, i), and the slot, or an r for rescue;"
                + " with a space between two; a hyphen alone if there are none.");
        due("none", Check.boots(of(1, "9 9 1 0")), "-");
        due("one", Check.boots(on(6, "9 9 1 0", "image 5 5 4 0")), "0p5");
        due("one to rescue", Check.boots(on(1, "9 9 1 0")), "0pr");
        BootSlots all = on(1, "3 9 1 0", "image 0 5 9 2", "mark 0 1 2");
        all.reboot();
        all.tick(2);
        all.begin(0, 5, 9, 0, 1);
        all.tick(1);
        all.tick(3);
        due("all causes", Check.boots(all), "0p0 0r0 2cr 3i0 6h0");
        BootSlots x = of(1, "9 9 1 0", "image 0 5 4 0", "mark 0 1 0 good");
        x.tick(9);
        x.power();
        for (int i = 0; i < 11; i++) {
            x.tick(1);
            x.reboot();
        }
        due("twelve", Check.boots(x), "9p0 10r0 11r0 12r0 13r0 14r0 15r0 16r0 17r0 18r0 19r0 20r0");
        x.tick(1);
        x.reboot();
        due("thirteen: the first one is kept no more", Check.boots(x),
                "10r0 11r0 12r0 13r0 14r0 15r0 16r0 17r0 18r0 19r0 20r0 21r0");
        int[] times = {0, 9, 10, 99, 100, 999, 1000, 1001, 9998, 9999};
        for (int time : times) {
            due("no leading zeros", Check.boots(bootedAt(time)), time + "p0");
        }
        promise(48, BYTES);
        due("the shortest one", of(1, "9 9 1 0").writeBoots(), 1);
        BootSlots late = of(1, "9 9 1 0", "image 0 5 4 0", "mark 0 1 0 good");
        for (int i = 0; i < 33; i++) {
            late.tick(300);
        }
        late.tick(99);
        late.power();
        for (int i = 0; i < 12; i++) {
            late.reboot();
        }
        due("the longest one", late.writeBoots(), 12 * 6 + 11);
        needsText(48, "writeBoots", BootSlots::writeBoots);
    }

    private static BootSlots bootedAt(int time) {
        BootSlots x = of(1, "9 9 1 0", "image 0 5 4 0");
        for (int left = time; left > 0; left -= 300) {
            x.tick(Math.min(left, 300));
        }
        x.power();
        return x;
    }

    private static void writeMachine() {
        promise(49, "Writes the machine as a text that replaces the text that was written before, by the grammar of section 5:"
                + " the first line; a line \"slot\" for each slot; for each slot that has an image, by numbers, a line"
                + " \"image\", and behind it a line \"mark\". There is a single blank between two tokens of a line, and a"
                + " semicolon without blanks between two lines; numbers have no leading zeros.");
        rightText("machine 01 01 00 00 ; slot", "machine 1 1 0 0;slot");
        rightText(text(6, "9 9 1 0"), text(6, "9 9 1 0"));
        rightText(text(2, "9 9 1 0", "image 1 5 4 3", "mark 1 0 0", "image 0 6 5 4 unsigned damaged"),
                text(2, "9 9 1 0", "image 0 6 5 4 unsigned damaged", "mark 0 1 1", "image 1 5 4 3", "mark 1 0 0"));
        String[] longest = greatest();
        for (int s = 0; s < 6; s++) {
            longest[2 * s] += " unsigned damaged";
        }
        String text = text(6, "99 9 7 99", longest);
        rightText(text, text);
        BootSlots busy = busy();
        due("behind what has happened, and without the install", Check.machine(busy), "machine 10 2 1 1;slot;slot;slot;slot;"
                + "image 0 5 4 0;mark 0 2 0 good;image 1 7 4 3;mark 1 9 0;image 2 3 4 0 damaged;mark 2 4 1");
        promise(49, BYTES);
        due("the shortest one", of(1, "1 1 0 0").writeMachine(), 20);
        due("the longest one", Check.of(text).writeMachine(), text.length());
        needsText(49, "writeMachine", BootSlots::writeMachine);
    }

    /** Each text stands alone, and nothing else is changed by it. */
    private static void replaces() {
        promise(47, "as a text that replaces the text that was written before");
        BootSlots x = on(1, "9 9 1 0");
        x.writeMachine();
        due("a shorter one", x.writeSlots() + written(x), "1-");
        promise(48, "as a text that replaces the text that was written before");
        due("a longer one", x.writeBoots() + written(x), "30pr");
        promise(49, "as a text that replaces the text that was written before");
        due("the longest one", x.writeMachine() + written(x), "20machine 9 9 1 0;slot");
        Call[] writes = {BootSlots::writeSlots, BootSlots::writeBoots, BootSlots::writeMachine};
        for (Call write : writes) {
            BootSlots y = busy();
            write.on(y);
            String text = written(y);
            BootSlots z = busy();
            write.on(z);
            due("nothing but the text is another one", everything(z),
                    everything(busy()).replace("| text 5:2/0! 7:9/0* 3:4/1 - |", "| text " + text + " |"));
        }
    }

    private static void textByte() {
        promise(50, "Returns a byte of the text that was written last.");
        promise(50, "- `i`: index of the byte, from 0");
        promise(50, "Returns the byte.");
        due("the first one", busy().textByte(0), (int) '5');
        due("the last one", busy().textByte(20), (int) '-');
        promise(50, "Throws `IndexOutOfBoundsException` if there is no such byte (always, before the first text)");
        int[] wrong = {-1, 21, 599, 600, LEAST, GREATEST};
        for (int i : wrong) {
            refused("textByte(" + i + ") of 21 bytes", Check.INDEX, Edge::busy, x -> x.textByte(i));
        }
        for (int i : new int[] {-1, 0, 1, LEAST, GREATEST}) {
            refused("textByte(" + i + ") before the first text", Check.INDEX, Edge::six, x -> x.textByte(i));
            refused("textByte(" + i + ") without a machine", Check.INDEX, BootSlots::new, x -> x.textByte(i));
        }
        Check.dueThrow("a write that throws is no text", Check.INDEX, TextEdges::byteBehindWrongWrite);
    }

    private static int byteBehindWrongWrite() {
        BootSlots x = new BootSlots();
        Check.dueThrow("writeSlots", Check.STATE, x::writeSlots);
        return x.textByte(0);
    }
}
