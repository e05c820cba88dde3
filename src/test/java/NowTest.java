/** Promises 7 to 11: the machine as it is. */
public final class NowTest {
    static final String FOUR = "machine 10 2 1 1;slot;slot;slot;slot;image 0 5 4 0;mark 0 2 0 good;"
            + "image 1 7 4 3;mark 1 9 2;image 2 3 4 0 damaged;mark 2 4 1";

    public static void main(String[] args) {
        count();
        countsOfHangsAndRescue();
        successes();
        slot();
        image();
        install();
        boot();
        keptBoots();
        Check.end();
    }

    private static void count() {
        Check.promise(7, "count");
        BootSlots x = Check.of(FOUR);
        Check.due("off", Check.counts(x), "4 0 10 2 1 1 0 -1 0 3 1 3 0 0 0 0 0 0 0 0");
        x.power();
        Check.due("power", Check.counts(x), "4 0 10 2 1 1 1 1 0 3 1 2 1 1 0 0 0 0 0 0");
        x.tick(2);
        Check.due("2 ticks", Check.counts(x), "4 2 10 2 1 1 1 1 2 3 1 2 1 1 0 0 0 0 0 0");
        x.tick(1);
        Check.due("a crash", Check.counts(x), "4 3 10 2 1 1 1 1 0 2 1 1 2 2 0 1 0 0 0 0");
        x.tick(3);
        Check.due("given up", Check.counts(x), "4 6 10 2 1 1 1 0 0 1 1 0 3 3 1 2 0 0 0 0");
        x.tick(3);
        Check.due("before START", Check.counts(x), "4 9 10 2 1 1 1 0 3 1 1 0 3 3 1 2 0 0 0 0");
        x.tick(1);
        Check.due("START", Check.counts(x), "4 10 10 2 1 5 1 0 4 1 1 0 3 3 1 2 0 0 0 0");
        x.begin(3, 9, 4, 0, 2);
        x.tick(2);
        Check.due("installed", Check.counts(x), "4 12 10 2 1 5 1 0 6 2 1 3 3 3 1 2 0 0 0 1");
        x.cut();
        Check.due("cut", Check.counts(x), "4 12 10 2 1 5 0 -1 0 2 1 3 3 3 1 2 0 0 0 1");
        x.tick(7);
        Check.due("ticks without power", Check.counts(x), "4 19 10 2 1 5 0 -1 0 2 1 3 3 3 1 2 0 0 0 1");
        Check.dueThrow("count(-1)", Check.ARGUMENT, () -> x.count(-1));
        Check.dueThrow("count(20)", Check.ARGUMENT, () -> x.count(20));
        Check.dueThrow("count(20) without a text", Check.STATE, () -> Check.empty().count(20));
    }

    private static void countsOfHangsAndRescue() {
        BootSlots x = Check.of("machine 3 4 5 0;slot;image 0 5 9 0;mark 0 3 2");
        x.power();
        x.tick(3);
        Check.due("a hang", Check.counts(x), "1 3 3 4 5 0 1 0 0 0 0 0 2 2 0 0 1 0 0 0");
        x.tick(3);
        Check.due("rescue", Check.counts(x), "1 6 3 4 5 0 2 -1 0 0 0 0 3 2 0 0 2 0 0 0");
        x.tick(5);
        Check.due("ticks in rescue", Check.counts(x), "1 11 3 4 5 0 2 -1 0 0 0 0 3 2 0 0 2 0 5 0");
    }

    private static void successes() {
        BootSlots x = Check.of("machine 9 4 5 0;slot;image 0 5 4 0;mark 0 3 2");
        x.power();
        x.tick(4);
        Check.due("a success", Check.counts(x), "1 4 9 4 5 5 1 0 4 1 1 0 1 1 0 0 0 1 0 0");
        x.reboot();
        x.tick(9);
        Check.due("no second one", Check.counts(x), "1 13 9 4 5 5 1 0 9 1 1 0 2 1 0 0 0 1 0 0");
    }

    private static String slots(BootSlots x, int s) {
        StringBuilder told = new StringBuilder();
        for (int what = 0; what < 9; what++) {
            told.append(what == 0 ? "" : " ").append(x.slot(s, what));
        }
        return told.toString();
    }

    private static void slot() {
        Check.promise(8, "slot");
        BootSlots x = Check.of(FOUR);
        Check.due("GOOD", slots(x, 0), "1 2 0 1 0 1 0 0 0");
        Check.due("not GOOD", slots(x, 1), "1 9 2 0 0 1 0 0 0");
        Check.due("damaged", slots(x, 2), "1 4 1 0 0 1 0 0 0");
        Check.due("empty", slots(x, 3), "0 0 0 0 0 0 0 0 0");
        x.power();
        x.tick(5);
        Check.due("crashed once", slots(x, 1), "1 9 0 0 1 0 2 2 0");
        x.tick(1);
        Check.due("crashed twice", slots(x, 1), "1 9 0 0 2 0 2 2 0");
        Check.due("given up", slots(x, 2), "1 0 0 0 0 0 0 1 0");
        Check.due("GOOD runs without a try", slots(x, 0), "1 2 0 1 0 1 1 0 0");
        x.begin(1, 9, 4, 0, 2);
        Check.due("an image that it had", slots(x, 1), "0 0 0 0 0 0 2 2 0");
        x.tick(2);
        x.reboot();
        x.tick(4);
        Check.due("success", slots(x, 1), "1 3 0 1 0 1 3 3 1");
        Check.dueThrow("slot(4, 9)", Check.INDEX, () -> x.slot(4, 9));
        Check.dueThrow("slot(-1, 0)", Check.INDEX, () -> x.slot(-1, 0));
        Check.dueThrow("slot(0, 9)", Check.ARGUMENT, () -> x.slot(0, 9));
        Check.dueThrow("slot(0, -1)", Check.ARGUMENT, () -> x.slot(0, -1));
        Check.dueThrow("slot(9, 9) without a text", Check.STATE, () -> Check.empty().slot(9, 9));
    }

    private static void image() {
        Check.promise(9, "image");
        BootSlots x = Check.of("machine 1 1 1 0;slot;slot;slot;image 0 5 4 3 unsigned;image 2 99 98 97 damaged");
        int[][] want = {{5, 4, 3, 1, 0}, {-1, -1, -1, -1, -1}, {99, 98, 97, 0, 1}};
        for (int s = 0; s < 3; s++) {
            for (int what = 0; what < 5; what++) {
                Check.due("image(" + s + ", " + what + ")", x.image(s, what), want[s][what]);
            }
        }
        Check.dueThrow("image(3, 5)", Check.INDEX, () -> x.image(3, 5));
        Check.dueThrow("image(-1, 0)", Check.INDEX, () -> x.image(-1, 0));
        Check.dueThrow("image(0, 5)", Check.ARGUMENT, () -> x.image(0, 5));
        Check.dueThrow("image(0, -1)", Check.ARGUMENT, () -> x.image(0, -1));
        Check.dueThrow("image(1, 5) of an empty slot", Check.ARGUMENT, () -> x.image(1, 5));
        Check.dueThrow("image(9, 9) without a text", Check.STATE, () -> Check.empty().image(9, 9));
    }

    private static String installs(BootSlots x) {
        return x.install(0) + " " + x.install(1) + " " + x.install(2) + " " + x.install(3);
    }

    private static void install() {
        Check.promise(10, "install");
        BootSlots x = Check.of(FOUR);
        Check.due("none", installs(x), "-1 -1 -1 -1");
        x.power();
        x.begin(0, 0, 4, 0, 3);
        Check.due("begun", installs(x), "0 3 0 3");
        x.tick(1);
        Check.due("a tick", installs(x), "0 2 0 3");
        x.tick(1);
        Check.due("two ticks", installs(x), "0 1 0 3");
        x.tick(1);
        Check.due("ended", installs(x), "-1 -1 -1 -1");
        x.begin(2, 77, 4, 0, 99);
        Check.due("another", installs(x), "2 99 77 3");
        x.cut();
        Check.due("lost", installs(x), "-1 -1 -1 -1");
        Check.dueThrow("install(-1)", Check.ARGUMENT, () -> x.install(-1));
        Check.dueThrow("install(4)", Check.ARGUMENT, () -> x.install(4));
        Check.dueThrow("install(4) without a text", Check.STATE, () -> Check.empty().install(4));
    }

    private static String boots(BootSlots x, int ago) {
        return x.boot(ago, 0) + " " + x.boot(ago, 1) + " " + x.boot(ago, 2) + " " + x.boot(ago, 3);
    }

    private static void boot() {
        Check.promise(11, "boot");
        BootSlots x = Check.of(FOUR);
        Check.due("none", boots(x, 0), "-2 -2 -2 -2");
        x.power();
        Check.due("power", boots(x, 0), "0 0 0 1");
        x.tick(9);
        Check.due("the latest", boots(x, 0), "6 2 4 0");
        Check.due("one ago", boots(x, 1), "3 2 0 1");
        Check.due("two ago", boots(x, 2), "0 0 0 1");
        Check.due("three ago", boots(x, 3), "-2 -2 -2 -2");
        Check.due("ago is negative", boots(x, -1), "-2 -2 -2 -2");
        Check.due("ago is least", boots(x, Integer.MIN_VALUE), "-2 -2 -2 -2");
        Check.due("ago is greatest", boots(x, Integer.MAX_VALUE), "-2 -2 -2 -2");
        x.spoil(0, 1);
        x.reboot();
        Check.due("by hand, to rescue", boots(x, 0), "9 1 1 -1");
        x.begin(1, 9, 2, 0, 1);
        x.tick(1);
        Check.due("an install in rescue", boots(x, 0), "10 4 0 1");
        x.setNumber(2, 1);
        x.tick(1);
        Check.due("a hang", boots(x, 0), "11 3 0 1");
        Check.dueThrow("boot(0, 4)", Check.ARGUMENT, () -> x.boot(0, 4));
        Check.dueThrow("boot(99, -1)", Check.ARGUMENT, () -> x.boot(99, -1));
        Check.dueThrow("boot(0, 4) without a text", Check.STATE, () -> Check.empty().boot(0, 4));
    }

    private static void keptBoots() {
        BootSlots x = Check.of("machine 9 4 5 0;slot;image 0 5 4 0;mark 0 3 1 good");
        x.power();
        for (int i = 1; i <= 12; i++) {
            x.tick(i);
            x.reboot();
        }
        Check.due("boots so far", x.count(12), 13);
        Check.due("the latest", boots(x, 0), "78 1 0 0");
        Check.due("the earliest that is kept", boots(x, 11), "1 1 0 0");
        Check.due("one that is not kept", boots(x, 12), "-2 -2 -2 -2");
    }
}
