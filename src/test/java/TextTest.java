/** Promises 45 to 50: floats and texts. */
public final class TextTest {
    public static void main(String[] args) {
        successShare();
        meanBoot();
        writeSlots();
        writeBoots();
        writeMachine();
        textByte();
        wrongCalls();
        Check.end();
    }

    private static void successShare() {
        Check.promise(45, "successShare");
        BootSlots x = Check.of("machine 9 9 1 0;slot;slot;image 0 5 4 0;mark 0 3 4;image 1 5 4 0;mark 1 1 1 good");
        Check.due("without tries", x.successShare(), 0.0f);
        x.power();
        Check.due("none of one", x.successShare(), 0.0f);
        x.reboot();
        x.reboot();
        x.tick(4);
        Check.due("one of three", x.successShare(), 1.0f / 3.0f);
        BootSlots y = Check.of("machine 9 9 1 0;slot;image 0 5 4 0;mark 0 3 4 good");
        y.power();
        Check.due("boots of a GOOD one are no tries", y.successShare(), 0.0f);
    }

    private static void meanBoot() {
        Check.promise(46, "meanBoot");
        BootSlots x = Check.of("machine 9 9 1 0;slot;image 0 5 4 0;mark 0 3 4 good");
        x.tick(7);
        Check.due("without boots", x.meanBoot(), 0.0);
        x.power();
        Check.due("one boot", x.meanBoot(), 7.0);
        x.reboot();
        x.reboot();
        Check.due("three boots", x.meanBoot(), 7.0 / 3.0);
        Check.due("time 0", meanAtOnce(), 0.0);
    }

    private static double meanAtOnce() {
        BootSlots x = Check.of("machine 9 9 1 0;slot");
        x.power();
        return x.meanBoot();
    }

    private static void writeSlots() {
        Check.promise(47, "writeSlots");
        BootSlots x = Check.of(NowTest.FOUR);
        Check.due("length", x.writeSlots(), 20);
        Check.due("off", Check.slots(x), "5:2/0! 7:9/2 3:4/1 -");
        x.power();
        Check.due("power", Check.slots(x), "5:2/0! 7:9/1* 3:4/1 -");
        x.tick(6);
        Check.due("GOOD and runs", Check.slots(x), "5:2/0!* 7:9/0 3:0/0 -");
        Check.due("great numbers", Check.slots(Check.of("machine 9 9 1 0;slot;slot;image 1 99 1 1;mark 1 15 7 good")),
                "- 99:15/7!");
        Check.due("small numbers", Check.slots(Check.of("machine 9 9 1 0;slot;image 0 0 1 1;mark 0 10 0")), "0:10/0");
        Check.due("empty", Check.slots(Check.of("machine 9 9 1 0;slot")), "-");
    }

    private static void writeBoots() {
        Check.promise(48, "writeBoots");
        BootSlots x = Check.of(NowTest.FOUR);
        Check.due("length", x.writeBoots(), 1);
        Check.due("none", Check.boots(x), "-");
        x.power();
        Check.due("one", Check.boots(x), "0p1");
        x.tick(9);
        Check.due("three", Check.boots(x), "0p1 3c1 6c0");
        x.spoil(0, 1);
        x.reboot();
        x.begin(1, 9, 2, 0, 1);
        x.tick(1);
        x.setNumber(2, 1);
        x.tick(1);
        Check.due("all causes", Check.boots(x), "0p1 3c1 6c0 9rr 10i1 11h1");
        BootSlots y = Check.of("machine 9 9 1 0;slot;slot;slot;slot;slot;slot;image 5 5 4 0;mark 5 3 4 good");
        y.tick(1);
        y.power();
        for (int i = 0; i < 12; i++) {
            y.tick(i == 5 ? 89 : 1);
            y.reboot();
        }
        Check.due("twelve that are kept", Check.boots(y),
                "2r5 3r5 4r5 5r5 6r5 95r5 96r5 97r5 98r5 99r5 100r5 101r5");
        y.tick(300);
        y.tick(300);
        y.tick(299);
        y.reboot();
        Check.due("the time 1000", Check.boots(y).endsWith(" 101r5 1000r5"), true);
        for (int i = 0; i < 29; i++) {
            y.tick(300);
        }
        y.tick(299);
        y.reboot();
        Check.due("the time 9999", Check.boots(y).endsWith(" 1000r5 9999r5"), true);
    }

    private static void writeMachine() {
        Check.promise(49, "writeMachine");
        BootSlots x = Check.of(NowTest.FOUR);
        Check.due("length", x.writeMachine(), NowTest.FOUR.length());
        Check.due("as it was loaded", Check.machine(x), NowTest.FOUR);
        x.power();
        x.tick(6);
        Check.due("TRIES, PRIORITY", Check.machine(x), "machine 10 2 1 1;slot;slot;slot;slot;image 0 5 4 0;"
                + "mark 0 2 0 good;image 1 7 4 3;mark 1 9 0;image 2 3 4 0 damaged;mark 2 0 0");
        x.tick(4);
        x.setNumber(2, 99);
        x.setNumber(3, 9);
        x.setNumber(4, 7);
        x.spoil(1, 0);
        x.begin(2, 9, 9, 9, 9);
        String written = Check.machine(x);
        Check.due("numbers, an install that is on", written, "machine 99 9 7 5;slot;slot;slot;slot;image 0 5 4 0;"
                + "mark 0 2 0 good;image 1 7 4 3 unsigned;mark 1 9 0");
        Check.due("read again", Check.machine(Check.of(written)), written);
        StringBuilder most = new StringBuilder("machine 99 9 7 99;slot;slot;slot;slot;slot;slot");
        for (int s = 0; s < 6; s++) {
            most.append(";image ").append(s).append(" 99 99 99 unsigned damaged;mark ").append(s).append(" 15 7 good");
        }
        Check.due("the longest one", Check.machine(Check.of(most.toString())), most.toString());
        Check.due("the shortest one", Check.machine(Check.of("machine 1 1 0 0;slot")), "machine 1 1 0 0;slot");
    }

    private static void textByte() {
        Check.promise(50, "textByte");
        BootSlots x = Check.of(NowTest.FOUR);
        Check.dueThrow("before the first text", Check.INDEX, () -> x.textByte(0));
        x.writeSlots();
        Check.due("the first byte", x.textByte(0), (int) '5');
        Check.due("the last byte", x.textByte(19), (int) '-');
        Check.dueThrow("behind the last byte", Check.INDEX, () -> x.textByte(20));
        Check.dueThrow("-1", Check.INDEX, () -> x.textByte(-1));
        Check.dueThrow("the greatest number", Check.INDEX, () -> x.textByte(Integer.MAX_VALUE));
        Check.dueThrow("the least number", Check.INDEX, () -> x.textByte(Integer.MIN_VALUE));
        x.writeBoots();
        Check.due("a text in its place", x.textByte(0), (int) '-');
        Check.dueThrow("that is shorter", Check.INDEX, () -> x.textByte(1));
        stays(x);
    }

    private static void stays(BootSlots x) {
        String text = Check.slots(x);
        x.save(0);
        x.power();
        x.tick(9);
        Check.due("behind changes", Check.text(x, 20), text);
        x.undo();
        Check.due("behind undo", Check.text(x, 20), text);
        x.restore(0);
        Check.due("behind restore", Check.text(x, 20), text);
        Check.feed(x, "machine 9 9 1 0;slot");
        x.load(20);
        Check.due("behind load", Check.text(x, 20), text);
        Check.dueThrow("load of nothing", Check.ARGUMENT, () -> x.load(0));
        Check.due("behind an error", Check.text(x, 20), text);
    }

    private static void wrongCalls() {
        BootSlots none = Check.empty();
        Check.promise(45, "successShare and the others");
        Check.dueThrow("successShare without a text", Check.STATE, none::successShare);
        Check.dueThrow("meanBoot without a text", Check.STATE, none::meanBoot);
        Check.dueThrow("writeSlots without a text", Check.STATE, none::writeSlots);
        Check.dueThrow("writeBoots without a text", Check.STATE, none::writeBoots);
        Check.dueThrow("writeMachine without a text", Check.STATE, none::writeMachine);
        Check.dueThrow("textByte(0) without a text", Check.INDEX, () -> none.textByte(0));
    }
}
