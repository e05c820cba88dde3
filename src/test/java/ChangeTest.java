/** Promises 51 to 62: changes, undo, save and restore. */
public final class ChangeTest {
    private static final String HANGS = "machine 3 4 5 0;slot;slot;image 0 5 9 0;mark 0 3 2;image 1 8 9 0;mark 1 2 1";

    public static void main(String[] args) {
        power();
        bootOrder();
        cut();
        reboot();
        tickNumbers();
        crashes();
        starts();
        ends();
        begin();
        beginWrong();
        spoil();
        mark();
        setNumber();
        undo();
        undoOfEach();
        undoOfKeptBoots();
        save();
        restore();
        Check.end();
    }

    private static void power() {
        Check.promise(51, "power");
        BootSlots x = Check.of(NowTest.FOUR);
        Check.dueThrow("without a text", Check.STATE, () -> Check.empty().power());
        Check.due("the slot that runs", x.power(), 1);
        Check.dueThrow("it runs", Check.ARGUMENT, x::power);
        Check.due("nothing is changed by that", x.undoable() + " " + Check.boots(x), "1 0p1");
        BootSlots y = Check.of("machine 9 9 1 0;slot");
        y.tick(5);
        Check.due("rescue", y.power(), -1);
        Check.due("state", y.count(6), 2);
        Check.due("boots", Check.boots(y), "5pr");
        Check.dueThrow("it is in rescue", Check.ARGUMENT, y::power);
        y.cut();
        Check.due("again", y.power(), -1);
    }

    /** The loader takes slots by PRIORITY, GOOD, VERSION and number. */
    private static void bootOrder() {
        String start = "machine 9 9 1 0;slot;slot;";
        Check.due("PRIORITY", Check.of(start + "image 0 9 1 0;mark 0 1 1 good;image 1 1 1 0;mark 1 2 1").power(), 1);
        Check.due("GOOD", Check.of(start + "image 0 9 1 0;image 1 1 1 0;mark 1 1 1 good").power(), 1);
        Check.due("VERSION", Check.of(start + "image 0 8 1 0;image 1 9 1 0").power(), 1);
        Check.due("VERSION of two GOOD ones", Check.of(start + "image 0 8 1 0;mark 0 1 0 good;image 1 9 1 0;"
                + "mark 1 1 0 good").power(), 1);
        Check.due("number", Check.of(start + "image 0 9 1 0;image 1 9 1 0").power(), 0);
        BootSlots x = Check.of(start + "slot;slot;image 0 9 1 0 damaged;mark 0 9 2 good;image 1 9 1 0 damaged;"
                + "mark 1 8 2;image 2 9 1 0;mark 2 7 3 good;image 3 9 1 0 unsigned;mark 3 15 7 good");
        Check.due("behind two that are given up", x.power(), 2);
        Check.due("GOOD keeps its TRIES, a try takes one", Check.slots(x), "9:0/2 9:0/1 9:7/3!* 9:15/7!");
        Check.due("given up, as a set", x.boot(0, 2), 3);
        Check.due("tries and slots given up", x.count(13) + " " + x.count(14), "1 2");
    }

    private static void cut() {
        Check.promise(52, "cut");
        BootSlots x = Check.of(NowTest.FOUR);
        Check.dueThrow("without a text", Check.STATE, () -> Check.empty().cut());
        Check.dueThrow("off", Check.ARGUMENT, x::cut);
        x.power();
        x.tick(2);
        Check.due("no install", x.cut(), -1);
        Check.due("off, none runs, no AGE", x.count(6) + " " + x.count(7) + " " + x.count(8), "0 -1 0");
        Check.dueThrow("off again", Check.ARGUMENT, x::cut);
        x.power();
        x.begin(2, 9, 9, 9, 9);
        Check.due("an install", x.cut(), 2);
        Check.due("it is lost", x.install(0), -1);
        Check.due("the slot stays empty", x.slot(2, 0), 0);
        x.power();
        x.tick(20);
        Check.due("for ever", x.slot(2, 0) + " " + x.count(19), "0 0");
        BootSlots rescue = Check.of("machine 9 9 1 0;slot");
        rescue.power();
        Check.due("rescue", rescue.cut(), -1);
        Check.due("off", rescue.count(6), 0);
    }

    private static void reboot() {
        Check.promise(53, "reboot");
        BootSlots x = Check.of(NowTest.FOUR);
        Check.dueThrow("without a text", Check.STATE, () -> Check.empty().reboot());
        Check.dueThrow("off", Check.ARGUMENT, x::reboot);
        x.power();
        x.tick(2);
        Check.due("the slot that runs", x.reboot(), 1);
        Check.due("AGE", x.count(8), 0);
        Check.due("TRIES", x.slot(1, 2), 0);
        Check.due("cause", x.boot(0, 1), 1);
        x.begin(3, 9, 9, 9, 9);
        Check.due("the next one", x.reboot(), 0);
        Check.due("an install goes on", x.install(0), 3);
        BootSlots rescue = Check.of("machine 9 9 1 0;slot;image 0 5 9 0;mark 0 0 1");
        rescue.power();
        Check.due("rescue", rescue.reboot(), -1);
        rescue.mark(0, 1, 1);
        Check.due("from rescue", rescue.reboot(), 0);
        Check.due("boots", Check.boots(rescue), "0pr 0rr 0r0");
    }

    private static void tickNumbers() {
        Check.promise(54, "tick");
        BootSlots x = Check.of(HANGS);
        Check.dueThrow("without a text", Check.STATE, () -> Check.empty().tick(0));
        Check.dueThrow("tick(0)", Check.ARGUMENT, () -> x.tick(0));
        Check.dueThrow("tick(-1)", Check.ARGUMENT, () -> x.tick(-1));
        Check.dueThrow("tick(301)", Check.ARGUMENT, () -> x.tick(301));
        Check.dueThrow("tick of the greatest number", Check.ARGUMENT, () -> x.tick(Integer.MAX_VALUE));
        Check.due("no change", x.undoable(), 0);
        for (int i = 0; i < 33; i++) {
            Check.due("off", x.tick(300), 0);
        }
        Check.dueThrow("the time would be 10000", Check.ARGUMENT, () -> x.tick(100));
        Check.due("the time stays", x.count(1), 9900);
        x.tick(98);
        Check.dueThrow("the time would be 10000", Check.ARGUMENT, () -> x.tick(2));
        Check.due("the time 9999", x.tick(1) + " " + x.count(1), "0 9999");
        Check.dueThrow("no tick is left", Check.ARGUMENT, () -> x.tick(1));
        BootSlots y = Check.of(HANGS);
        y.power();
        Check.due("boots in 8 ticks", y.tick(8), 2);
        Check.due("boots in 1 tick", y.tick(1), 1);
        Check.due("boots", Check.boots(y), "0p0 3h0 6h1 9hr");
        Check.due("boots in rescue", y.tick(300), 0);
    }

    private static void crashes() {
        BootSlots x = Check.of("machine 9 3 2 0;slot;slot;image 0 5 7 6;mark 0 3 1 good;image 1 4 3 0");
        x.power();
        x.tick(12);
        Check.due("two FAULTS, GOOD", x.slot(0, 4) + " " + Check.slots(x), "2 5:3/1!* 4:1/1");
        x.tick(6);
        Check.due("LIMIT: TRIES are RETRY, and one is taken", x.slot(0, 4) + " " + Check.slots(x), "0 5:3/1* 4:1/1");
        x.tick(6);
        Check.due("one TRY more", x.slot(0, 4) + " " + Check.slots(x), "1 5:3/0* 4:1/1");
        x.tick(6);
        Check.due("the other one", x.slot(0, 4) + " " + Check.slots(x), "2 5:3/0 4:1/0*");
        Check.due("boots", Check.boots(x), "0p0 6c0 12c0 18c0 24c0 30c1");
        // the first one that applies: CRASH ahead of START and WATCH, START ahead of WATCH
        BootSlots all = Check.of("machine 4 9 1 0;slot;image 0 5 4 4;mark 0 1 2");
        all.power();
        all.tick(4);
        Check.due("CRASH is START is WATCH", all.count(15) + " " + all.count(16) + " " + all.count(17), "1 0 0");
        BootSlots good = Check.of("machine 2 9 1 0;slot;image 0 5 9 0;mark 0 1 2 good");
        good.power();
        good.tick(8);
        Check.due("a GOOD one does not hang", good.count(12), 1);
        // FAULTS of one that is not GOOD are counted, but LIMIT does not matter
        BootSlots bad = Check.of("machine 9 1 7 0;slot;image 0 5 9 1;mark 0 1 5");
        bad.power();
        bad.tick(3);
        Check.due("three crashes", bad.slot(0, 4) + " " + Check.slots(bad), "3 5:1/1*");
        BootSlots lower = Check.of("machine 9 9 0 0;slot;image 0 5 9 2;mark 0 1 5 good");
        lower.power();
        lower.tick(6);
        lower.setNumber(3, 2);
        lower.tick(2);
        Check.due("FAULTS are more than LIMIT, RETRY 0", lower.slot(0, 4) + " " + Check.slots(lower), "0 5:1/0");
    }

    private static void starts() {
        BootSlots x = Check.of("machine 9 9 2 0;slot;slot;slot;image 0 5 2 3;mark 0 3 4;image 1 4 3 0;mark 1 1 1 good;"
                + "image 2 9 1 0;mark 2 2 1");
        x.power();
        x.tick(2);
        Check.due("GOOD, no TRIES", Check.slots(x), "5:3/0!* 4:1/1! 9:2/1");
        Check.due("FLOOR is the least VERSION of the GOOD ones", x.count(5), 4);
        x.tick(1);
        Check.due("a crash behind START", x.slot(0, 4), 1);
        x.tick(2);
        Check.due("FAULTS are 0 at START", x.slot(0, 4), 0);
        Check.due("successes", x.slot(0, 8) + " " + x.count(17), "1 1");
        BootSlots floor = Check.of("machine 9 9 2 7;slot;slot;image 0 9 2 0;mark 0 3 1 good;image 1 8 2 0;mark 1 1 1 good");
        floor.power();
        floor.tick(1);
        Check.due("before START", floor.count(5), 7);
        floor.tick(1);
        Check.due("FLOOR also rises by a GOOD one", floor.count(5), 8);
        BootSlots low = Check.of("machine 9 9 2 7;slot;slot;image 0 9 2 0;mark 0 3 1;image 1 6 2 0;mark 1 1 1 good");
        low.power();
        low.tick(2);
        Check.due("FLOOR never sinks", low.count(5), 7);
        BootSlots pass = Check.of("machine 2 9 2 0;slot;image 0 9 2 0;mark 0 3 1");
        pass.power();
        pass.tick(9);
        Check.due("START is WATCH", Check.slots(pass) + " " + pass.count(16), "9:3/0!* 0");
        BootSlots over = Check.of("machine 9 9 2 0;slot;image 0 9 20 0;mark 0 3 1");
        over.power();
        over.tick(5);
        over.setNumber(2, 5);
        over.tick(15);
        Check.due("AGE was WATCH before", Check.slots(over), "9:3/0!*");
    }

    /** The ends of installs. */
    private static void ends() {
        BootSlots x = Check.of("machine 9 9 2 0;slot;slot;slot;slot;image 0 5 2 0;mark 0 15 0 good;image 1 4 3 0;"
                + "mark 1 2 1;image 2 9 1 0 unsigned;mark 2 1 1");
        x.power();
        x.begin(3, 1, 2, 3, 2);
        x.tick(1);
        Check.due("before", Check.slots(x), "5:15/0!* 4:2/1 9:1/1 -");
        Check.due("no boot", x.tick(1), 0);
        Check.due("PRIORITY of the others above 1 sinks", Check.slots(x), "5:14/0!* 4:1/1 9:1/1 1:15/3");
        Check.due("the image", x.image(3, 0) + " " + x.image(3, 1) + " " + x.image(3, 2) + " " + x.image(3, 3)
                + " " + x.image(3, 4), "1 2 3 0 0");
        Check.due("installs", x.count(19), 1);
        x.begin(3, 7, 7, 7, 1);
        x.tick(1);
        Check.due("once more, its own PRIORITY does not count", Check.slots(x), "5:14/0!* 4:1/1 9:1/1 7:15/3");
        x.mark(0, 3, 0);
        x.begin(3, 8, 8, 8, 1);
        x.tick(1);
        Check.due("1 more than the greatest of the others", Check.slots(x), "5:3/0!* 4:1/1 9:1/1 8:4/3");
        BootSlots alone = Check.of("machine 2 9 2 0;slot;slot;image 0 5 3 0");
        alone.power();
        alone.tick(2);
        alone.begin(0, 5, 2, 0, 3);
        Check.due("an install in rescue", alone.tick(3) + " " + Check.slots(alone), "1 5:1/2* -");
        Check.due("its boot", Check.boots(alone), "0p0 2hr 5i0");
        Check.due("ticks in rescue", alone.count(18), 3);
        BootSlots hopeless = Check.of("machine 2 9 2 9;slot");
        hopeless.power();
        hopeless.begin(0, 5, 2, 0, 1);
        hopeless.tick(3);
        Check.due("an image that FLOOR shuts out", Check.boots(hopeless) + " " + hopeless.count(18), "0pr 1ir 3");
        BootSlots both = Check.of("machine 2 9 2 0;slot;slot;image 0 5 9 0");
        both.power();
        both.begin(1, 6, 9, 0, 2);
        Check.due("two boots in one tick", both.tick(2) + " " + Check.boots(both), "2 0p0 2hr 2i1");
        Check.due("no tick in rescue, AGE 0", both.count(18) + " " + both.count(8), "0 0");
        BootSlots faults = Check.of("machine 9 9 2 0;slot;slot;image 0 5 9 2;mark 0 2 1;image 1 4 1 0;mark 1 1 1 good");
        faults.power();
        faults.tick(2);
        Check.due("FAULTS", faults.slot(0, 4), 1);
        faults.begin(0, 5, 2, 0, 1);
        Check.due("none while it is empty", faults.slot(0, 4), 0);
        faults.tick(1);
        Check.due("none behind it", faults.slot(0, 4), 0);
    }

    private static void begin() {
        Check.promise(55, "begin");
        BootSlots x = Check.of(NowTest.FOUR);
        x.power();
        x.tick(2);
        Check.due("the time at which it ends", x.begin(0, 99, 98, 97, 96), 98);
        Check.due("the slot is empty", Check.slots(x), "- 7:9/1* 3:4/1 -");
        Check.due("not GOOD", x.slot(0, 3), 0);
        Check.due("no image", x.image(0, 0), -1);
        Check.due("the install", x.install(0) + " " + x.install(1) + " " + x.install(2) + " " + x.install(3), "0 96 99 3");
        x.tick(96);
        Check.due("the image", x.image(0, 0) + " " + x.image(0, 1) + " " + x.image(0, 2), "99 98 97");
        Check.due("the time", x.count(1), 98);
        Check.due("least numbers", x.begin(3, 0, 1, 0, 1), 99);
        x.tick(1);
        Check.due("the image", x.image(3, 0) + " " + x.image(3, 1) + " " + x.image(3, 2), "0 1 0");
        Check.due("greatest numbers", x.begin(3, 99, 99, 99, 99), 198);
        BootSlots rescue = Check.of("machine 9 9 1 0;slot");
        rescue.power();
        Check.due("in rescue", rescue.begin(0, 1, 1, 1, 5), 5);
        rescue.spoil(0, 2);
        rescue.tick(5);
        Check.due("spoilt while it was on", rescue.image(0, 3) + " " + rescue.image(0, 4), "1 1");
        rescue.begin(0, 1, 1, 1, 1);
        rescue.tick(1);
        Check.due("neither unsigned nor damaged", rescue.image(0, 3) + " " + rescue.image(0, 4), "0 0");
    }

    private static void beginWrong() {
        BootSlots x = Check.of(NowTest.FOUR);
        Check.dueThrow("off", Check.ARGUMENT, () -> x.begin(3, 1, 1, 1, 1));
        Check.dueThrow("off, no such slot", Check.INDEX, () -> x.begin(4, 1, 1, 1, 1));
        x.power();
        Check.dueThrow("without a text", Check.STATE, () -> Check.empty().begin(4, 100, 0, 0, 0));
        Check.dueThrow("no such slot", Check.INDEX, () -> x.begin(4, 100, 0, 0, 0));
        Check.dueThrow("slot -1", Check.INDEX, () -> x.begin(-1, 1, 1, 1, 1));
        int[][] wrong = {{100, 1, 1, 1}, {-1, 1, 1, 1}, {1, 0, 1, 1}, {1, 100, 1, 1}, {1, 1, -1, 1}, {1, 1, 100, 1},
            {1, 1, 1, 0}, {1, 1, 1, 100}};
        for (int[] w : wrong) {
            Check.dueThrow("begin(3, " + w[0] + ", " + w[1] + ", " + w[2] + ", " + w[3] + ")", Check.ARGUMENT,
                    () -> x.begin(3, w[0], w[1], w[2], w[3]));
        }
        Check.dueThrow("the slot runs", Check.ARGUMENT, () -> x.begin(1, 1, 1, 1, 1));
        Check.due("no change", x.undoable(), 1);
        x.begin(3, 1, 1, 1, 1);
        Check.dueThrow("an install is on", Check.ARGUMENT, () -> x.begin(2, 1, 1, 1, 1));
        Check.dueThrow("an install is on for it", Check.ARGUMENT, () -> x.begin(3, 1, 1, 1, 1));
    }

    private static void spoil() {
        Check.promise(56, "spoil");
        BootSlots x = Check.of(NowTest.FOUR);
        Check.dueThrow("without a text", Check.STATE, () -> Check.empty().spoil(4, 3));
        Check.dueThrow("no such slot", Check.INDEX, () -> x.spoil(4, 3));
        Check.dueThrow("slot -1", Check.INDEX, () -> x.spoil(-1, 0));
        Check.dueThrow("how 3", Check.ARGUMENT, () -> x.spoil(0, 3));
        Check.dueThrow("how -1", Check.ARGUMENT, () -> x.spoil(0, -1));
        Check.dueThrow("an empty slot", Check.ARGUMENT, () -> x.spoil(3, 0));
        Check.due("unsigned", x.spoil(0, 0) + " " + x.image(0, 3) + " " + x.image(0, 4), "1 1 0");
        Check.due("unsigned again", x.spoil(0, 0), 1);
        Check.due("damaged, too", x.spoil(0, 1) + " " + x.image(0, 3) + " " + x.image(0, 4), "3 1 1");
        Check.due("damaged", x.spoil(1, 1) + " " + x.image(1, 3) + " " + x.image(1, 4), "2 0 1");
        Check.due("unsigned, too", x.spoil(1, 0), 3);
        Check.due("both", x.spoil(2, 2), 3);
        BootSlots y = Check.of(NowTest.FOUR);
        y.power();
        y.spoil(1, 1);
        Check.due("the slot that runs goes on", y.count(7), 1);
        y.begin(3, 1, 1, 1, 3);
        Check.due("the image of an install", y.spoil(3, 1), 2);
        Check.due("unsigned, too", y.spoil(3, 0), 3);
        Check.dueThrow("an empty slot beside the install", Check.ARGUMENT, () -> emptyBesideInstall().spoil(1, 0));
        y.tick(3);
        Check.due("the image that came", y.image(3, 3) + " " + y.image(3, 4), "1 1");
    }

    private static BootSlots emptyBesideInstall() {
        BootSlots x = Check.of("machine 9 9 1 0;slot;slot");
        x.power();
        x.begin(0, 1, 1, 1, 1);
        return x;
    }

    private static void mark() {
        Check.promise(57, "mark");
        BootSlots x = Check.of(NowTest.FOUR);
        Check.dueThrow("without a text", Check.STATE, () -> Check.empty().mark(4, 16, 8));
        Check.dueThrow("no such slot", Check.INDEX, () -> x.mark(4, 16, 8));
        Check.dueThrow("slot -1", Check.INDEX, () -> x.mark(-1, 1, 1));
        Check.dueThrow("PRIORITY 16", Check.ARGUMENT, () -> x.mark(0, 16, 1));
        Check.dueThrow("PRIORITY -1", Check.ARGUMENT, () -> x.mark(0, -1, 1));
        Check.dueThrow("TRIES 8", Check.ARGUMENT, () -> x.mark(0, 1, 8));
        Check.dueThrow("TRIES -1", Check.ARGUMENT, () -> x.mark(0, 1, -1));
        Check.dueThrow("an empty slot", Check.ARGUMENT, () -> x.mark(3, 1, 1));
        Check.due("no change", x.undoable(), 0);
        Check.due("PRIORITY before", x.mark(0, 15, 7), 2);
        Check.due("PRIORITY before", x.mark(0, 0, 0), 15);
        Check.due("PRIORITY before", x.mark(1, 3, 4), 9);
        Check.due("GOOD stays", Check.slots(x), "5:0/0! 7:3/4 3:4/1 -");
        Check.dueThrow("a slot of an install", Check.ARGUMENT, () -> emptyBesideInstall().mark(0, 1, 1));
    }

    private static void setNumber() {
        Check.promise(58, "setNumber");
        BootSlots x = Check.of("machine 9 8 7 6;slot");
        int[][] ranges = {{2, 1, 99, 9}, {3, 1, 9, 8}, {4, 0, 7, 7}, {5, 6, 99, 6}};
        for (int[] r : ranges) {
            Check.dueThrow(r[0] + " too small", Check.ARGUMENT, () -> x.setNumber(r[0], r[1] - 1));
            Check.dueThrow(r[0] + " too great", Check.ARGUMENT, () -> x.setNumber(r[0], r[2] + 1));
            Check.due(r[0] + " before", x.setNumber(r[0], r[1]), r[3]);
            Check.due(r[0] + " least", x.count(r[0]), r[1]);
            Check.due(r[0] + " before", x.setNumber(r[0], r[2]), r[1]);
            Check.due(r[0] + " greatest", x.count(r[0]), r[2]);
        }
        Check.due("all four", Check.machine(x), "machine 99 9 7 99;slot");
        Check.due("changes", x.undoable(), 8);
        Check.dueThrow("FLOOR less than it is", Check.ARGUMENT, () -> x.setNumber(5, 98));
        Check.dueThrow("what 1", Check.ARGUMENT, () -> x.setNumber(1, 6));
        Check.dueThrow("what 6", Check.ARGUMENT, () -> x.setNumber(6, 6));
        Check.dueThrow("what 0", Check.ARGUMENT, () -> x.setNumber(0, 1));
        Check.dueThrow("without a text", Check.STATE, () -> Check.empty().setNumber(9, 9));
    }

    private static void undo() {
        BootSlots x = Check.of(NowTest.FOUR);
        Check.promise(59, "undo");
        Check.dueThrow("none", Check.STATE, x::undo);
        String[] states = new String[11];
        for (int i = 0; i < 10; i++) {
            states[i] = Check.all(x);
            x.mark(1, i, i % 8);
            Check.promise(60, "undoable");
            Check.due("undoable", x.undoable(), Math.min(i + 1, 8));
        }
        Check.feed(x, "x");
        Check.promise(59, "undo");
        for (int i = 9; i >= 2; i--) {
            Check.due("changes that are left", x.undo(), i - 2);
            Check.due("as it was before change " + i, Check.all(x), states[i]);
            Check.due("undoable", x.undoable(), i - 2);
        }
        Check.dueThrow("only the latest 8", Check.STATE, x::undo);
        Check.due("all stays then", Check.all(x), states[2]);
        Check.due("the buffer stays", x.buffered(), 20);
        Check.dueThrow("load", Check.ARGUMENT, () -> x.load(1));
        x.power();
        Check.feed(x, "xy");
        Check.due("undo", x.undo(), 0);
        Check.due("the error and the buffer stay", x.parseError() + " " + x.errorPosition() + " " + x.buffered(), "1 0 20");
        Check.dueThrow("without a text", Check.STATE, () -> Check.empty().undo());
        Check.promise(60, "undoable");
        Check.due("without a text", Check.empty().undoable(), 0);
        for (int i = 0; i < 5; i++) {
            x.tick(1);
        }
        x.undo();
        x.undo();
        Check.due("three are left", x.undoable(), 3);
        x.tick(9);
        Check.due("a change behind undo", x.undoable(), 4);
        Check.promise(59, "undo");
        x.undo();
        Check.due("behind undo and a change", x.undo() + " " + x.count(1), "2 2");
    }

    /** Each of the changes is one change, even if nothing is different then. */
    private static void undoOfEach() {
        Check.promise(59, "undo of each change");
        BootSlots x = Check.of(NowTest.FOUR);
        String off = Check.all(x);
        x.power();
        Check.due("undo of power", x.undo() + Check.all(x), 0 + off);
        x.tick(3);
        Check.due("undo of tick", x.undo() + Check.all(x), 0 + off);
        x.power();
        x.tick(9);
        String on = Check.all(x);
        x.reboot();
        Check.due("undo of reboot", x.undo() + Check.all(x), 2 + on);
        x.begin(3, 1, 2, 3, 4);
        Check.due("undo of begin", x.undo() + Check.all(x), 2 + on);
        x.begin(3, 1, 2, 3, 4);
        String installing = Check.all(x);
        x.cut();
        Check.due("undo of cut", x.undo() + Check.all(x), 3 + installing);
        x.spoil(3, 2);
        x.spoil(0, 2);
        Check.due("undo of spoil", x.undo() + x.undo() + Check.all(x), 4 + 3 + installing);
        x.tick(4);
        Check.due("undo of tick, no trace of spoil", x.undo() + Check.all(x), 3 + installing);
        x.tick(4);
        Check.due("no trace of spoil", x.image(3, 3) + x.image(3, 4), 0);
        x.undo();
        for (int what = 2; what < 6; what++) {
            x.setNumber(what, 7);
            Check.due("undo of setNumber", x.undo() + Check.all(x), 3 + installing);
        }
        x.mark(0, x.slot(0, 1), x.slot(0, 2));
        Check.due("a change without a difference", x.undoable(), 4);
        Check.due("undo of it", x.undo() + Check.all(x), 3 + installing);
        Check.dueThrow("a call that throws", Check.ARGUMENT, () -> x.mark(0, 16, 0));
        x.save(0);
        x.ifBooted();
        x.writeSlots();
        Check.due("no changes", x.undoable(), 3);
    }

    /** Boots that are not kept any more are kept again behind undo and restore, and counts are as before. */
    private static void undoOfKeptBoots() {
        Check.promise(59, "undo, boots and counts");
        BootSlots x = Check.of("machine 2 9 3 0;slot;slot;slot;image 0 5 9 0;mark 0 9 1;image 1 6 1 0 damaged;"
                + "mark 1 8 2;image 2 4 1 2;mark 2 7 0 good");
        String off = Check.all(x);
        x.power();
        String on = Check.all(x);
        x.tick(5);
        String before = Check.all(x);
        Check.due("boots, given up, hangs", Check.boots(x) + " " + x.boot(1, 2) + " " + x.count(16), "0p0 2h2 4c2 2 1");
        x.save(0);
        Check.due("boots, more than are kept", x.tick(60), 30);
        x.undo();
        Check.due("undo of many boots", Check.all(x), before);
        x.undo();
        Check.due("undo of a hang", Check.all(x), on);
        x.undo();
        Check.due("undo of all", Check.all(x), off);
        x.power();
        x.tick(65);
        x.restore(0);
        Check.due("restore behind many boots", Check.all(x), before);
        x.spoil(2, 0);
        x.reboot();
        String rescue = Check.all(x);
        x.tick(9);
        Check.due("ticks in rescue", x.count(18), 9);
        x.undo();
        Check.due("undo of them", Check.all(x), rescue);
    }

    private static void save() {
        Check.promise(61, "save");
        BootSlots x = Check.of(NowTest.FOUR);
        Check.dueThrow("without a text", Check.STATE, () -> Check.empty().save(2));
        Check.dueThrow("save(2)", Check.INDEX, () -> x.save(2));
        Check.dueThrow("save(-1)", Check.INDEX, () -> x.save(-1));
        Check.due("the time", x.save(0), 0);
        x.power();
        x.tick(8);
        String atEight = Check.all(x);
        Check.due("the time", x.save(1), 8);
        x.begin(3, 9, 9, 9, 9);
        x.tick(2);
        Check.due("restore(1)", x.restore(1), 8);
        Check.due("all that is told", Check.all(x), atEight);
        Check.due("restore(0)", x.restore(0), 0);
        Check.due("all that is told", Check.all(x), Check.all(Check.of(NowTest.FOUR)));
        x.tick(5);
        Check.due("in place of what was saved", x.save(0), 5);
        x.tick(5);
        Check.due("restore(0)", x.restore(0), 5);
        Check.due("the other one", x.restore(1), 8);
    }

    private static void restore() {
        Check.promise(62, "restore");
        BootSlots x = Check.of(NowTest.FOUR);
        Check.dueThrow("no such slot, without a text", Check.INDEX, () -> Check.empty().restore(2));
        Check.dueThrow("restore(-1)", Check.INDEX, () -> x.restore(-1));
        Check.dueThrow("restore(2)", Check.INDEX, () -> x.restore(2));
        Check.dueThrow("nothing is saved", Check.STATE, () -> x.restore(1));
        x.power();
        x.tick(4);
        x.save(1);
        Check.dueThrow("nothing is saved in the other one", Check.STATE, () -> x.restore(0));
        Check.due("a restore that throws leaves undo", x.undoable(), 2);
        String saved = Check.all(x);
        for (int i = 0; i < 2; i++) {
            x.cut();
            x.tick(9);
            Check.due("the time", x.restore(1), 4);
            Check.due("it stays saved " + i, Check.all(x), saved);
            Check.due("nothing can be undone", x.undoable(), 0);
            Check.dueThrow("undo", Check.STATE, x::undo);
        }
        x.tick(1);
        Check.due("a change behind it", x.undoable(), 1);
        x.undo();
        Check.due("undo of that one", Check.all(x), saved);
        Check.feed(x, "y");
        Check.dueThrow("load", Check.ARGUMENT, () -> x.load(1));
        Check.feed(x, "z");
        x.restore(1);
        Check.due("the buffer and the error stay", x.buffered() + " " + x.parseError() + " " + x.errorPosition(), "20 1 0");
    }
}
