/** Promises 36 to 44: what would be otherwise. */
public final class OtherwiseTest {
    public static void main(String[] args) {
        booted();
        settlesOn();
        settlesWithout();
        ifInstalled();
        roomAbove();
        triesFor();
        bestWatch();
        highestFloor();
        keySlot();
        nothingIsChanged();
        wrongCalls();
        Check.end();
    }

    private static void booted() {
        BootSlots x = Check.of("machine 9 9 1 0;slot;slot;slot;slot;image 0 5 4 0 damaged;mark 0 9 1 good;"
                + "image 1 5 4 0;mark 1 2 1;image 2 5 4 0 damaged;mark 2 8 1;image 3 5 4 0 damaged");
        Check.promise(36, "ifBooted");
        Check.due("ifBooted", x.ifBooted(), 1);
        Check.promise(37, "givenUpIf");
        Check.due("givenUpIf", x.givenUpIf(), 1 + 4);
        x.power();
        Check.promise(36, "ifBooted");
        Check.due("the damaged one is left", x.ifBooted(), -1);
        Check.promise(37, "givenUpIf");
        Check.due("it is given up", x.givenUpIf(), 8);
        x.tick(4);
        Check.due("GOOD goes on", x.ifBooted(), 1);
        Check.due("none is given up", x.givenUpIf(), 0);
        BootSlots none = Check.of("machine 9 9 1 0;slot");
        Check.due("no slot", none.ifBooted(), -1);
        Check.due("no slot", none.givenUpIf(), 0);
        BootSlots six = Check.of("machine 9 9 1 0;slot;slot;slot;slot;slot;slot;image 0 1 1 1 damaged;"
                + "image 1 1 1 1 damaged;image 2 1 1 1 damaged;image 3 1 1 1 damaged;image 4 1 1 1 damaged;"
                + "image 5 1 1 1 damaged");
        Check.due("all six", six.givenUpIf(), 63);
        Check.due("all six", six.ifBooted(), -1);
    }

    private static void settlesOn() {
        Check.promise(38, "settlesOn");
        BootSlots x = Check.of("machine 60 9 1 0;slot;slot;image 0 5 99 0;mark 0 3 5;image 1 6 2 0;mark 1 2 1");
        Check.due("off, at 300", x.settlesOn(), 1);
        x.setNumber(2, 61);
        Check.due("off, at 305", x.settlesOn(), 0);
        x.power();
        x.tick(60);
        Check.due("a boot takes one of the TRIES", x.settlesOn(), 1);
        BootSlots y = Check.of("machine 9 9 1 0;slot;slot;image 0 5 9 0;mark 0 3 1;image 1 4 99 0;mark 1 2 2");
        Check.due("slot 0 succeeds", y.settlesOn(), 0);
        y.power();
        Check.due("slot 0 has no TRIES left, slot 1 hangs", y.settlesOn(), -1);
        y.begin(1, 9, 3, 0, 9);
        Check.due("an install goes on", y.settlesOn(), 1);
    }

    private static void settlesWithout() {
        Check.promise(39, "settlesWithout");
        BootSlots x = Check.of("machine 9 9 1 0;slot;slot;slot;image 0 5 9 0;mark 0 3 1;image 1 4 5 0;mark 1 2 2");
        Check.due("without 0", x.settlesWithout(0), 1);
        Check.due("without 1", x.settlesWithout(1), 0);
        Check.due("without an empty one", x.settlesWithout(2), 0);
        x.power();
        Check.due("without the one that runs", x.settlesWithout(0), 1);
        Check.due("without the other one", x.settlesWithout(1), -1);
        x.begin(2, 9, 3, 0, 2);
        Check.due("and without the install for it", x.settlesWithout(2), 1);
        Check.due("and without the install for another one", x.settlesWithout(1), -1);
    }

    private static void ifInstalled() {
        Check.promise(40, "ifInstalled");
        BootSlots x = Check.of("machine 9 9 1 4;slot;slot;slot;image 0 5 9 0;mark 0 3 1 good;"
                + "image 1 4 5 0 unsigned damaged;mark 1 2 0");
        Check.due("into an empty slot", x.ifInstalled(2, 4, 9), 2);
        Check.due("less than FLOOR", x.ifInstalled(2, 3, 9), 0);
        Check.due("START greater than WATCH", x.ifInstalled(2, 4, 10), 0);
        Check.due("neither unsigned nor damaged", x.ifInstalled(1, 99, 1), 1);
        Check.due("in place of the GOOD one", x.ifInstalled(0, 5, 10), -1);
        Check.due("in place of the GOOD one", x.ifInstalled(0, 5, 9), 0);
        x.power();
        Check.due("of the slot that runs, too", x.ifInstalled(0, 5, 10), -1);
        x.begin(2, 9, 1, 0, 2);
        Check.due("the install that is on is lost", x.ifInstalled(0, 5, 10), -1);
        Check.due("it goes on otherwise", x.install(0), 2);
        Check.due("in place of the install", x.ifInstalled(2, 4, 10), 0);
        threeTries();
    }

    private static void threeTries() {
        BootSlots x = Check.of("machine 98 9 1 0;slot;slot;image 0 5 9 0;mark 0 3 1 good");
        Check.due("3 TRIES end at 294", x.ifInstalled(1, 9, 99), 0);
        BootSlots y = Check.of("machine 75 9 1 0;slot;slot;image 0 5 9 0;mark 0 3 1 good");
        Check.due("3 TRIES end at 225", y.ifInstalled(1, 9, 99), 0);
        BootSlots z = Check.of("machine 99 9 1 0;slot;slot;image 0 5 9 4;mark 0 0 0");
        Check.due("CRASH 0, START 99 is WATCH", z.ifInstalled(1, 9, 99), 1);
        // the machine boots once, also from rescue
        BootSlots rescue = Check.of("machine 2 9 1 0;slot;slot;image 0 5 99 0");
        rescue.power();
        rescue.tick(2);
        Check.due("rescue", rescue.count(6), 2);
        Check.due("from rescue", rescue.ifInstalled(1, 9, 2), 1);
        Check.due("from rescue to rescue", rescue.ifInstalled(1, 9, 3), -1);
        BootSlots once = Check.of("machine 98 9 1 0;slot;slot;image 0 5 99 0;mark 0 0 1");
        once.power();
        once.mark(0, 1, 1);
        Check.due("rescue", once.count(6), 2);
        Check.due("3 TRIES end at 294, then slot 0 runs", once.ifInstalled(1, 9, 99), 0);
    }

    /** PRIORITY of the slot is 1 more than the greatest of the others, which sink if that is 15. */
    private static void roomAbove() {
        BootSlots x = Check.of("machine 9 9 1 0;slot;slot;slot;image 0 5 99 0;mark 0 15 1 ;image 1 4 5 0;mark 1 14 2");
        Check.due("slot 2 is ahead of 15", x.ifInstalled(2, 1, 9), 2);
        Check.due("slot 1 is ahead of 15", x.ifInstalled(1, 1, 9), 1);
        Check.due("slot 0 is ahead of 14", x.ifInstalled(0, 1, 9), 0);
        BootSlots low = Check.of("machine 2 9 1 0;slot;slot;slot;image 0 5 99 0;mark 0 15 1;image 1 4 2 0;mark 1 1 2");
        Check.due("PRIORITY 1 does not sink to 0", low.ifInstalled(2, 9, 99), 1);
    }

    private static void triesFor() {
        Check.promise(41, "triesFor");
        BootSlots x = Check.of("machine 9 9 1 0;slot;slot;slot;slot;image 0 5 9 0;mark 0 3 0;"
                + "image 1 5 10 0;mark 1 4 2;image 2 5 4 0 damaged;mark 2 9 0 good");
        Check.due("one", x.triesFor(0), 1);
        Check.due("none", x.triesFor(1), -1);
        Check.due("GOOD, but given up", x.triesFor(2), -1);
        Check.due("an empty slot", x.triesFor(3), -1);
        BootSlots good = Check.of("machine 9 9 1 0;slot;slot;image 0 5 9 0;mark 0 3 0 good;image 1 5 1 0;mark 1 2 0");
        Check.due("GOOD", good.triesFor(0), 0);
        Check.due("never booted behind a GOOD one", good.triesFor(1), -1);
        good.power();
        good.begin(1, 9, 1, 0, 1);
        Check.due("an empty slot with an install", good.triesFor(1), -1);
        triesForAfterCrashes();
    }

    /** A slot that a GOOD one falls back to, and that has lost a try to WATCH before. */
    private static void triesForAfterCrashes() {
        BootSlots x = Check.of("machine 9 2 0 0;slot;slot;image 0 5 9 3;mark 0 3 0 good;image 1 5 4 0;mark 1 2 0");
        Check.due("behind two crashes", x.triesFor(1), 1);
        Check.due("GOOD at first", x.triesFor(0), 0);
        BootSlots shut = Check.of("machine 9 2 0 6;slot;image 0 5 4 0");
        Check.due("shut out by FLOOR", shut.triesFor(0), -1);
        // PRIORITY is equal, so the slot runs ahead of slot 1 if it has TRIES; WATCH lets it hang five times
        BootSlots late = Check.of("machine 60 2 0 0;slot;slot;image 0 5 60 0;mark 0 3 0;image 1 5 61 0;mark 1 4 4");
        Check.due("at 300", late.triesFor(0), 1);
        late.mark(1, 4, 5);
        Check.due("at 360", late.triesFor(0), -1);
        BootSlots install = Check.of("machine 9 2 0 0;slot;slot;slot;image 0 5 9 3;mark 0 3 0 good;"
                + "image 1 5 8 0;mark 1 2 0");
        install.power();
        install.begin(2, 4, 99, 4, 1);
        Check.due("an install goes on, and takes three of the runs", install.triesFor(1), 1);
    }

    private static void bestWatch() {
        Check.promise(42, "bestWatch");
        BootSlots x = Check.of("machine 1 9 1 0;slot;slot;slot;slot;image 0 5 99 0;mark 0 3 1;"
                + "image 1 5 7 7;mark 1 2 2;image 2 5 4 0;mark 2 9 0 good");
        Check.due("GOOD now", x.bestWatch(2), 1);
        Check.due("behind a GOOD one", x.bestWatch(0), -1);
        x.spoil(2, 0);
        Check.due("99", x.bestWatch(0), 99);
        Check.due("CRASH is START", x.bestWatch(1), -1);
        Check.due("an empty slot", x.bestWatch(3), -1);
        BootSlots steps = Check.of("machine 9 9 1 0;slot;slot;image 0 5 6 0;mark 0 3 1;image 1 4 2 0;mark 1 1 1");
        Check.due("START", steps.bestWatch(0), 6);
        Check.due("a small WATCH lets slot 0 hang", steps.bestWatch(1), 2);
        // with WATCH 2 slot 0 hangs five times until 10, then slot 1 hangs; with WATCH 61 slot 0 would hang until 305
        BootSlots many = Check.of("machine 9 9 1 0;slot;slot;image 0 5 99 0;mark 0 3 5;image 1 4 50 0;mark 1 1 1");
        Check.due("50, of 50 to 98", many.bestWatch(1), 50);
        many.mark(0, 3, 6);
        Check.due("350 ticks are too many", many.bestWatch(1), -1);
        many.mark(0, 3, 7);
        many.mark(0, 3, 5);
        Check.due("as it was", many.bestWatch(1), 50);
        many.power();
        many.cut();
        Check.due("with one of the TRIES less", many.bestWatch(0), 99);
    }

    private static void highestFloor() {
        Check.promise(43, "highestFloor");
        BootSlots x = Check.of("machine 9 9 1 50;slot;slot;slot;slot;slot;image 0 10 4 0;image 1 30 4 0 unsigned;"
                + "image 2 40 4 0;mark 2 0 7;image 3 60 4 0;mark 3 1 0");
        Check.due("less than it is", x.highestFloor(), 10);
        x.mark(3, 1, 1);
        Check.due("more than it is", x.highestFloor(), 60);
        x.mark(3, 1, 0);
        x.mark(2, 1, 7);
        Check.due("with PRIORITY", x.highestFloor(), 40);
        x.spoil(2, 1);
        Check.due("damaged is not known ahead", x.highestFloor(), 40);
        x.spoil(2, 0);
        Check.due("unsigned", x.highestFloor(), 10);
        Check.due("none", Check.of("machine 9 9 1 0;slot").highestFloor(), -1);
        Check.due("GOOD, VERSION 0", Check.of("machine 9 9 1 9;slot;image 0 0 1 0;mark 0 1 0 good").highestFloor(), 0);
    }

    private static void keySlot() {
        Check.promise(44, "keySlot");
        BootSlots x = Check.of("machine 9 9 1 0;slot;slot;slot;slot;image 0 5 10 0;mark 0 3 1;"
                + "image 1 5 10 0;mark 1 2 2;image 2 5 10 0 unsigned");
        Check.due("without 1 at 9, without 0 at 18", x.keySlot(), 1);
        x.mark(0, 3, 2);
        Check.due("of two the smallest number", x.keySlot(), 0);
        x.mark(0, 3, 3);
        Check.due("without 0 at 18, without 1 at 27", x.keySlot(), 0);
        BootSlots good = Check.of("machine 9 9 1 0;slot;slot;slot;image 0 5 10 0;mark 0 3 1;"
                + "image 1 5 4 0;mark 1 2 2 ;image 2 5 4 0;mark 2 0 2");
        Check.due("the one that would succeed", good.keySlot(), 1);
        good.mark(2, 1, 1);
        Check.due("two that would succeed", good.keySlot(), -1);
        Check.due("none", Check.of("machine 9 9 1 0;slot").keySlot(), -1);
        keySlotAndInstall();
    }

    private static void keySlotAndInstall() {
        BootSlots x = Check.of("machine 9 9 1 0;slot;slot;image 0 5 4 0;mark 0 3 2");
        Check.due("alone", x.keySlot(), 0);
        x.power();
        Check.due("the one that runs", x.keySlot(), 0);
        x.begin(1, 9, 4, 0, 1);
        Check.due("rescue at 0, and an install behind it", x.keySlot(), 0);
        BootSlots y = Check.of("machine 9 9 1 0;slot;slot;slot;image 0 5 10 0;mark 0 3 2;image 1 5 4 0;mark 1 2 2");
        y.power();
        Check.due("without 1", y.keySlot(), 1);
        y.begin(2, 9, 4, 0, 8);
        Check.due("an install that is on goes on", y.keySlot(), -1);
        BootSlots late = Check.of("machine 60 9 1 0;slot;slot;image 0 5 99 0;mark 0 3 5;image 1 5 4 0;mark 1 2 2");
        Check.due("at 300", late.keySlot(), 1);
        late.setNumber(2, 61);
        Check.due("at 305", late.keySlot(), -1);
    }

    private static void nothingIsChanged() {
        Check.promise(36, "what would be otherwise changes nothing");
        BootSlots x = Check.of(NowTest.FOUR);
        x.power();
        x.begin(3, 9, 4, 0, 5);
        x.tick(1);
        String before = Check.all(x);
        x.ifBooted();
        x.givenUpIf();
        x.settlesOn();
        x.highestFloor();
        x.keySlot();
        for (int s = 0; s < 4; s++) {
            x.settlesWithout(s);
            x.ifInstalled(s, 9, 9);
            x.triesFor(s);
            x.bestWatch(s);
        }
        Check.due("all that is told", Check.all(x), before);
        Check.due("undoable", x.undoable(), 3);
    }

    private static void wrongCalls() {
        BootSlots x = Check.of(NowTest.FOUR);
        BootSlots none = Check.empty();
        Check.promise(36, "ifBooted and the others without arguments");
        Check.dueThrow("ifBooted without a text", Check.STATE, none::ifBooted);
        Check.dueThrow("givenUpIf without a text", Check.STATE, none::givenUpIf);
        Check.dueThrow("settlesOn without a text", Check.STATE, none::settlesOn);
        Check.dueThrow("highestFloor without a text", Check.STATE, none::highestFloor);
        Check.dueThrow("keySlot without a text", Check.STATE, none::keySlot);
        int[] wrong = {-1, 4, Integer.MIN_VALUE, Integer.MAX_VALUE};
        for (int s : wrong) {
            Check.promise(39, "settlesWithout");
            Check.dueThrow("settlesWithout(" + s + ")", Check.INDEX, () -> x.settlesWithout(s));
            Check.dueThrow("settlesWithout without a text", Check.STATE, () -> none.settlesWithout(s));
            Check.promise(40, "ifInstalled");
            Check.dueThrow("ifInstalled(" + s + ", 100, 0)", Check.INDEX, () -> x.ifInstalled(s, 100, 0));
            Check.dueThrow("ifInstalled without a text", Check.STATE, () -> none.ifInstalled(s, 100, 0));
            Check.promise(41, "triesFor");
            Check.dueThrow("triesFor(" + s + ")", Check.INDEX, () -> x.triesFor(s));
            Check.dueThrow("triesFor without a text", Check.STATE, () -> none.triesFor(s));
            Check.promise(42, "bestWatch");
            Check.dueThrow("bestWatch(" + s + ")", Check.INDEX, () -> x.bestWatch(s));
            Check.dueThrow("bestWatch without a text", Check.STATE, () -> none.bestWatch(s));
        }
        Check.promise(40, "ifInstalled");
        Check.dueThrow("VERSION 100", Check.ARGUMENT, () -> x.ifInstalled(0, 100, 1));
        Check.dueThrow("VERSION -1", Check.ARGUMENT, () -> x.ifInstalled(0, -1, 1));
        Check.dueThrow("START 0", Check.ARGUMENT, () -> x.ifInstalled(0, 0, 0));
        Check.dueThrow("START 100", Check.ARGUMENT, () -> x.ifInstalled(0, 0, 100));
        Check.due("VERSION 99, START 1", x.ifInstalled(0, 99, 1), 0);
        Check.due("VERSION 0, START 99", Check.of("machine 99 9 1 0;slot").ifInstalled(0, 0, 99), 0);
    }
}
