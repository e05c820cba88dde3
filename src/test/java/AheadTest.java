/** Promises 25 to 35: what will be if only ticks pass. */
public final class AheadTest {
    private static final String HANGS = "machine 3 4 5 0;slot;slot;image 0 5 9 0;mark 0 3 2;image 1 8 9 0;mark 1 2 1";

    public static void main(String[] args) {
        plainRun();
        hangs();
        newerIn();
        goodIn();
        installs();
        behindWatch();
        likeTicks();
        beyondTheLastTime();
        wrongCalls();
        Check.end();
    }

    /** Slot 1 crashes at 3 and 6, slot 2 is given up at 6, slot 0 runs and succeeds at 10. */
    private static void plainRun() {
        BootSlots x = Check.of(NowTest.FOUR);
        String off = Check.all(x);
        Check.promise(25, "stateIn");
        Check.due("off", x.stateIn(300), 0);
        Check.promise(32, "rescueIn");
        Check.due("off", x.rescueIn(), -1);
        Check.due("nothing is changed", Check.all(x), off);
        x.power();
        String before = Check.all(x);
        int[][] rows = {{0, 1, 1, 0, 0, 0}, {2, 1, 1, 0, 0, 0}, {3, 1, 1, 1, 1, 1}, {5, 1, 1, 1, 1, 1},
            {6, 0, 1, 2, 1, 2}, {9, 0, 1, 2, 1, 2}, {10, 0, 5, 2, 1, 2}, {300, 0, 5, 2, 1, 2}};
        for (int[] row : rows) {
            String in = "In(" + row[0] + ")";
            Check.promise(25, "stateIn");
            Check.due("state" + in, x.stateIn(row[0]), 1);
            Check.promise(26, "slotIn");
            Check.due("slot" + in, x.slotIn(row[0]), row[1]);
            Check.promise(27, "floorIn");
            Check.due("floor" + in, x.floorIn(row[0]), row[2]);
            Check.promise(28, "bootsIn");
            Check.due("boots" + in, x.bootsIn(row[0]), row[3]);
            Check.promise(29, "runsIn");
            Check.due("runs of 1 " + in, x.runsIn(1, row[0]), row[4]);
            Check.due("runs of 0 " + in, x.runsIn(0, row[0]), row[3] - row[4]);
            Check.due("runs of 2 " + in, x.runsIn(2, row[0]), 0);
            Check.promise(30, "crashesIn");
            Check.due("crashes" + in, x.crashesIn(row[0]), row[5]);
            Check.promise(35, "triesIn");
            Check.due("tries of 1 " + in, x.triesIn(1, row[0]), 1 - row[4]);
            Check.due("tries of 2 " + in, x.triesIn(2, row[0]), row[0] < 6 ? 1 : 0);
        }
        Check.promise(34, "calmIn");
        Check.due("calmIn", x.calmIn(), 6);
        Check.promise(32, "rescueIn");
        Check.due("never", x.rescueIn(), -1);
        Check.due("nothing is changed", Check.all(x), before);
        Check.due("nothing is a change", x.undoable(), 1);
        x.tick(3);
        Check.promise(28, "bootsIn");
        Check.due("from now on", x.bootsIn(300), 1);
        Check.promise(29, "runsIn");
        Check.due("from now on", x.runsIn(1, 300), 0);
        Check.promise(30, "crashesIn");
        Check.due("from now on", x.crashesIn(300), 1);
        Check.promise(34, "calmIn");
        Check.due("from now on", x.calmIn(), 3);
        x.tick(3);
        Check.due("none within the next ticks", x.calmIn(), 0);
    }

    private static void hangs() {
        BootSlots x = Check.of(HANGS);
        x.power();
        Check.promise(25, "stateIn");
        Check.due("stateIn(8)", x.stateIn(8), 1);
        Check.due("stateIn(9)", x.stateIn(9), 2);
        Check.promise(26, "slotIn");
        Check.due("slotIn(8)", x.slotIn(8), 1);
        Check.due("slotIn(9)", x.slotIn(9), -1);
        Check.promise(28, "bootsIn");
        Check.due("bootsIn(300), the one to rescue too", x.bootsIn(300), 3);
        Check.promise(30, "crashesIn");
        Check.due("a hang is no crash", x.crashesIn(300), 0);
        Check.promise(32, "rescueIn");
        Check.due("rescueIn", x.rescueIn(), 9);
        Check.promise(34, "calmIn");
        Check.due("calmIn", x.calmIn(), 9);
        Check.promise(31, "newerIn");
        Check.due("newerIn", x.newerIn(), 6);
        x.tick(9);
        Check.promise(32, "rescueIn");
        Check.due("now", x.rescueIn(), 0);
        Check.promise(31, "newerIn");
        Check.due("the machine does not run", x.newerIn(), -1);
        // hangs at 60, 120, 180, 240 and 300: the last tick that is looked at
        BootSlots z = Check.of("machine 60 9 1 0;slot;image 0 5 99 0;mark 0 3 5");
        z.power();
        Check.due("at 300", z.rescueIn(), 300);
        Check.promise(34, "calmIn");
        Check.due("at 300", z.calmIn(), 300);
        z.setNumber(2, 61);
        Check.promise(32, "rescueIn");
        Check.due("at 305", z.rescueIn(), -1);
        Check.promise(34, "calmIn");
        Check.due("at 244", z.calmIn(), 244);
    }

    private static void newerIn() {
        Check.promise(31, "newerIn");
        BootSlots x = Check.of("machine 60 9 1 0;slot;slot;image 0 5 99 0;mark 0 3 5;image 1 6 2 0;mark 1 2 1");
        Check.due("off", x.newerIn(), -1);
        x.power();
        Check.due("at 300", x.newerIn(), 300);
        BootSlots y = Check.of("machine 61 9 1 0;slot;slot;image 0 5 99 0;mark 0 3 5;image 1 6 2 0;mark 1 2 1");
        y.power();
        Check.due("at 305", y.newerIn(), -1);
        BootSlots z = Check.of("machine 9 9 1 0;slot;slot;image 0 5 99 0;mark 0 3 1;image 1 5 2 0");
        z.power();
        Check.due("the same VERSION", z.newerIn(), -1);
        z.tick(9);
        Check.due("the next one runs", z.slotIn(0), 1);
        BootSlots chain = Check.of("machine 9 9 1 0;slot;slot;slot;image 0 5 99 0;mark 0 3 1;"
                + "image 1 4 99 0;mark 1 2 2;image 2 6 99 0;mark 2 1 1");
        chain.power();
        Check.due("an older one between", chain.newerIn(), 27);
        chain.tick(9);
        Check.due("newer than the older one", chain.newerIn(), 18);
    }

    private static void goodIn() {
        Check.promise(33, "goodIn");
        BootSlots x = Check.of("machine 5 1 2 0;slot;slot;slot;image 0 5 5 0;mark 0 3 1;image 1 6 2 0;mark 1 2 1 good");
        Check.due("off", x.goodIn(0), -1);
        Check.due("GOOD now", x.goodIn(1), 0);
        x.power();
        Check.due("START is WATCH", x.goodIn(0), 5);
        Check.due("empty", x.goodIn(2), -1);
        x.setNumber(2, 4);
        Check.due("a hang ahead", x.goodIn(0), -1);
        x.begin(2, 7, 3, 0, 4);
        Check.due("the install ends behind the last boot", x.goodIn(2), -1);
        x.undo();
        x.begin(2, 7, 3, 0, 3);
        Check.due("by an install", x.goodIn(2), 7);
        BootSlots y = Check.of("machine 60 9 1 0;slot;slot;image 0 5 99 0;mark 0 3 4;image 1 6 60 0;mark 1 2 1");
        y.power();
        Check.due("at 300", y.goodIn(1), 300);
        y.undo();
        y.setNumber(2, 60);
        y.mark(0, 3, 5);
        y.power();
        Check.due("at 360", y.goodIn(1), -1);
        BootSlots lost = Check.of("machine 9 1 0 0;slot;image 0 5 1 3;mark 0 1 0 good");
        lost.power();
        Check.due("GOOD now, and lost later", lost.goodIn(0), 0);
        lost.tick(4);
        Check.due("never again", lost.goodIn(0), -1);
    }

    private static void installs() {
        BootSlots x = Check.of("machine 2 9 1 0;slot;slot;image 0 5 9 0");
        x.power();
        x.begin(1, 9, 1, 0, 7);
        Check.promise(25, "stateIn");
        Check.due("rescue", x.stateIn(6), 2);
        Check.due("an install in rescue", x.stateIn(7), 1);
        Check.promise(26, "slotIn");
        Check.due("its slot", x.slotIn(7), 1);
        Check.promise(27, "floorIn");
        Check.due("before", x.floorIn(7), 0);
        Check.due("its success", x.floorIn(8), 9);
        Check.promise(28, "bootsIn");
        Check.due("bootsIn", x.bootsIn(7), 2);
        Check.promise(29, "runsIn");
        Check.due("runsIn", x.runsIn(1, 7), 1);
        Check.promise(31, "newerIn");
        Check.due("newerIn", x.newerIn(), 7);
        Check.promise(32, "rescueIn");
        Check.due("rescueIn", x.rescueIn(), 2);
        Check.promise(33, "goodIn");
        Check.due("goodIn", x.goodIn(1), 8);
        Check.promise(34, "calmIn");
        Check.due("calmIn", x.calmIn(), 7);
        Check.promise(35, "triesIn");
        Check.due("before", x.triesIn(1, 6), 0);
        Check.due("behind", x.triesIn(1, 7), 2);
        Check.due("behind the success", x.triesIn(1, 8), 0);
        // a crash to rescue and the end of the install in one tick
        BootSlots y = Check.of("machine 2 9 1 0;slot;slot;image 0 5 9 0");
        y.power();
        y.begin(1, 9, 1, 0, 2);
        Check.promise(28, "bootsIn");
        Check.due("two boots in one tick", y.bootsIn(2), 2);
        Check.promise(32, "rescueIn");
        Check.due("no rescue behind it", y.rescueIn(), -1);
        BootSlots two = Check.of("machine 9 9 1 0;slot;slot;image 0 5 9 0");
        two.power();
        two.begin(1, 9, 1, 0, 3);
        Check.promise(35, "triesIn");
        Check.due("TRIES of an install while another slot runs", two.triesIn(1, 3), 3);
    }

    /** A GOOD slot goes on behind WATCH, and crashes or reaches START there. */
    private static void behindWatch() {
        BootSlots x = Check.of("machine 2 2 0 0;slot;slot;image 0 5 6 9;mark 0 3 0 good;image 1 5 1 0");
        x.power();
        Check.promise(27, "floorIn");
        Check.due("before START", x.floorIn(5), 0);
        Check.due("at START", x.floorIn(6), 5);
        Check.promise(30, "crashesIn");
        Check.due("before CRASH", x.crashesIn(8), 0);
        Check.due("at CRASH", x.crashesIn(9), 1);
        Check.due("FAULTS are 0 at each START, so LIMIT is not reached", x.crashesIn(300), 33);
        Check.promise(34, "calmIn");
        Check.due("calmIn", x.calmIn(), 297);
        Check.promise(33, "goodIn");
        Check.due("never", x.goodIn(1), -1);
    }

    /** What will be is what is behind so many ticks. */
    private static void likeTicks() {
        String[] texts = {NowTest.FOUR, HANGS,
            "machine 7 3 2 0;slot;slot;image 0 5 3 5;mark 0 3 2;image 1 8 2 0 ;mark 1 3 1 good"};
        for (String text : texts) {
            for (int n = 1; n <= 40; n++) {
                BootSlots x = Check.of(text);
                x.power();
                String ahead = ahead(x, n);
                int boots = x.bootsIn(n);
                int crashes = x.crashesIn(n);
                int runs = x.runsIn(0, n);
                int before = x.count(15);
                int ranBefore = x.slot(0, 6);
                Check.promise(28, "bootsIn");
                Check.due("boots in " + n + " of " + text, boots, x.tick(n));
                Check.promise(25, "stateIn and the others");
                Check.due("behind " + n + " of " + text, ahead(x, 0), ahead);
                Check.promise(30, "crashesIn");
                Check.due("crashes in " + n + " of " + text, crashes, x.count(15) - before);
                Check.promise(29, "runsIn");
                Check.due("runs in " + n + " of " + text, runs, x.slot(0, 6) - ranBefore);
            }
        }
    }

    private static String ahead(BootSlots x, int n) {
        return x.stateIn(n) + " " + x.slotIn(n) + " " + x.floorIn(n) + " " + x.triesIn(0, n) + " " + x.triesIn(1, n);
    }

    private static void beyondTheLastTime() {
        Check.promise(25, "what will be, beyond the time 9999");
        BootSlots x = Check.of(HANGS);
        for (int i = 0; i < 33; i++) {
            x.tick(300);
        }
        x.tick(98);
        x.power();
        Check.due("stateIn", x.stateIn(9), 2);
        Check.due("rescueIn", x.rescueIn(), 9);
        Check.due("bootsIn", x.bootsIn(300), 3);
    }

    private static void wrongCalls() {
        BootSlots x = Check.of(NowTest.FOUR);
        BootSlots none = Check.empty();
        Check.promise(31, "newerIn and the others without arguments");
        Check.dueThrow("newerIn without a text", Check.STATE, none::newerIn);
        Check.dueThrow("rescueIn without a text", Check.STATE, none::rescueIn);
        Check.dueThrow("calmIn without a text", Check.STATE, none::calmIn);
        int[] wrong = {-1, 301, Integer.MIN_VALUE, Integer.MAX_VALUE};
        for (int n : wrong) {
            Check.promise(25, "stateIn");
            Check.dueThrow("stateIn(" + n + ")", Check.ARGUMENT, () -> x.stateIn(n));
            Check.dueThrow("stateIn(" + n + ") without a text", Check.STATE, () -> none.stateIn(n));
            Check.promise(26, "slotIn");
            Check.dueThrow("slotIn(" + n + ")", Check.ARGUMENT, () -> x.slotIn(n));
            Check.dueThrow("slotIn(" + n + ") without a text", Check.STATE, () -> none.slotIn(n));
            Check.promise(27, "floorIn");
            Check.dueThrow("floorIn(" + n + ")", Check.ARGUMENT, () -> x.floorIn(n));
            Check.dueThrow("floorIn(" + n + ") without a text", Check.STATE, () -> none.floorIn(n));
            Check.promise(28, "bootsIn");
            Check.dueThrow("bootsIn(" + n + ")", Check.ARGUMENT, () -> x.bootsIn(n));
            Check.dueThrow("bootsIn(" + n + ") without a text", Check.STATE, () -> none.bootsIn(n));
            Check.promise(29, "runsIn");
            Check.dueThrow("runsIn(0, " + n + ")", Check.ARGUMENT, () -> x.runsIn(0, n));
            Check.dueThrow("runsIn(4, " + n + ")", Check.INDEX, () -> x.runsIn(4, n));
            Check.dueThrow("runsIn(" + n + ", 5)", Check.INDEX, () -> x.runsIn(n, 5));
            Check.dueThrow("runsIn(4, " + n + ") without a text", Check.STATE, () -> none.runsIn(4, n));
            Check.promise(30, "crashesIn");
            Check.dueThrow("crashesIn(" + n + ")", Check.ARGUMENT, () -> x.crashesIn(n));
            Check.dueThrow("crashesIn(" + n + ") without a text", Check.STATE, () -> none.crashesIn(n));
            Check.promise(33, "goodIn");
            Check.dueThrow("goodIn(" + n + ")", Check.INDEX, () -> x.goodIn(n));
            Check.dueThrow("goodIn(" + n + ") without a text", Check.STATE, () -> none.goodIn(n));
            Check.promise(35, "triesIn");
            Check.dueThrow("triesIn(0, " + n + ")", Check.ARGUMENT, () -> x.triesIn(0, n));
            Check.dueThrow("triesIn(4, " + n + ")", Check.INDEX, () -> x.triesIn(4, n));
            Check.dueThrow("triesIn(" + n + ", 5)", Check.INDEX, () -> x.triesIn(n, 5));
            Check.dueThrow("triesIn(4, " + n + ") without a text", Check.STATE, () -> none.triesIn(4, n));
        }
    }
}
