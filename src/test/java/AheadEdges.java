/** The boundary cases of promises 25 to 35: what will be if only ticks pass. */
final class AheadEdges extends Edge {
    static void all() {
        stateIn();
        slotIn();
        floorIn();
        bootsIn();
        runsIn();
        crashesIn();
        newerIn();
        rescueIn();
        goodIn();
        calmIn();
        triesIn();
        behindWatch();
    }

    /**
     * Slot 0 runs and hangs each 60 ticks, at 360 for the last time; slot 1, which is newer, runs then
     * and succeeds at 420.
     */
    private static BootSlots late(int ticks) {
        return later(ticks, on(2, "60 9 1 0", "image 0 5 99 0", "mark 0 9 6", "image 1 6 60 0"));
    }

    /** Slot 0 runs and hangs each 60 ticks, at 360 for the last time. */
    private static BootSlots lateRescue(int ticks) {
        return later(ticks, on(1, "60 9 1 0", "image 0 5 99 0", "mark 0 9 6"));
    }

    /** Slot 0 is GOOD, and crashes each second tick for ever. */
    private static BootSlots crashing() {
        return on(2, "9 9 1 0", "image 0 5 1 2", "mark 0 9 7 good", "image 1 4 1 0");
    }

    private static BootSlots later(int ticks, BootSlots x) {
        x.tick(ticks);
        return x;
    }

    private static void asked(String what, Call call, Object want) {
        asks(what, Edge::busy, call, want);
    }

    private static void stateIn() {
        promise(25, "Returns what count(int) 6 will be then.");
        due("off, at once", of(1, "9 9 1 0", "image 0 5 4 0").stateIn(0), 0);
        due("off, at last", of(1, "9 9 1 0", "image 0 5 4 0").stateIn(300), 0);
        due("it runs, at once", on(1, "9 9 1 0", "image 0 5 4 0").stateIn(0), 1);
        due("it runs, at last", on(1, "9 9 1 0", "image 0 5 4 0").stateIn(300), 1);
        due("rescue, at once", on(1, "9 9 1 0").stateIn(0), 2);
        due("rescue, at last", on(1, "9 9 1 0").stateIn(300), 2);
        due("301 ticks ahead of rescue", lateRescue(59).stateIn(300), 1);
        due("300 ticks ahead of rescue", lateRescue(60).stateIn(300), 2);
        due("299 of 300 ticks", lateRescue(60).stateIn(299), 1);
        BootSlots x = on(1, "9 9 1 0");
        x.begin(0, 5, 4, 0, 99);
        due("98 of 99 ticks of an install", x.stateIn(98), 2);
        due("99 ticks", x.stateIn(99), 1);
        asked("it runs until the end", y -> y.stateIn(300), 1);
        needsText(25, "stateIn", y -> y.stateIn(0), y -> y.stateIn(-1), y -> y.stateIn(301));
        needsTicks(25, "stateIn", BootSlots::stateIn);
    }

    private static void slotIn() {
        promise(26, "Returns the slot that runs then; NONE if none does.");
        due("off", of(1, "9 9 1 0", "image 0 5 4 0").slotIn(300), -1);
        due("rescue", on(1, "9 9 1 0").slotIn(300), -1);
        due("at once", late(59).slotIn(0), 0);
        due("301 ticks ahead", late(59).slotIn(300), 0);
        due("300 ticks ahead", late(60).slotIn(300), 1);
        due("299 of 300 ticks", late(60).slotIn(299), 0);
        due("to rescue", lateRescue(60).slotIn(300), -1);
        due("the last slot", on(6, "9 9 1 0", "image 5 5 4 0").slotIn(300), 5);
        asked("slot 2 is given up, slot 0 runs", x -> x.slotIn(3), 0);
        needsText(26, "slotIn", y -> y.slotIn(0), y -> y.slotIn(-1), y -> y.slotIn(301));
        needsTicks(26, "slotIn", BootSlots::slotIn);
    }

    private static void floorIn() {
        promise(27, "Returns FLOOR then.");
        due("at once", late(119).floorIn(0), 0);
        due("301 ticks ahead", late(119).floorIn(300), 0);
        due("300 ticks ahead", late(120).floorIn(300), 6);
        due("299 of 300 ticks", late(120).floorIn(299), 0);
        due("99 stays", of(1, "9 9 1 99").floorIn(300), 99);
        due("from 0 to 99", on(1, "9 9 1 0", "image 0 99 1 0").floorIn(1), 99);
        asked("before START", x -> x.floorIn(6), 1);
        asked("at START", x -> x.floorIn(7), 5);
        needsText(27, "floorIn", y -> y.floorIn(0), y -> y.floorIn(-1), y -> y.floorIn(301));
        needsTicks(27, "floorIn", BootSlots::floorIn);
    }

    private static void bootsIn() {
        promise(28, "Returns how many boots there are until then.");
        due("at once", crashing().bootsIn(0), 0);
        due("before the first one", crashing().bootsIn(1), 0);
        due("the first one", crashing().bootsIn(2), 1);
        due("more than are kept", crashing().bootsIn(300), 150);
        due("before the last one", crashing().bootsIn(299), 149);
        due("one to rescue counts", lateRescue(60).bootsIn(300), 5);
        due("off", of(1, "9 9 1 0", "image 0 5 4 0").bootsIn(300), 0);
        BootSlots two = on(2, "2 9 1 0", "image 0 5 9 0");
        two.begin(1, 5, 1, 0, 2);
        due("two in one tick", two.bootsIn(2) + " " + two.bootsIn(1), "2 0");
        asked("one more", x -> x.bootsIn(300), 1);
        needsText(28, "bootsIn", y -> y.bootsIn(0), y -> y.bootsIn(-1), y -> y.bootsIn(301));
        needsTicks(28, "bootsIn", BootSlots::bootsIn);
    }

    private static void runsIn() {
        promise(29, "Returns how often a slot runs anew by boots until then.");
        due("at once", crashing().runsIn(0, 0), 0);
        due("the same slot anew", crashing().runsIn(0, 2), 1);
        due("150 times", crashing().runsIn(0, 300), 150);
        due("the other one never", crashing().runsIn(1, 300), 0);
        due("301 ticks ahead", late(59).runsIn(1, 300), 0);
        due("300 ticks ahead", late(60).runsIn(1, 300), 1);
        due("of slot 0 five times before", late(1).runsIn(0, 300), 5);
        due("a slot that is given up does not run", busy().runsIn(2, 300), 0);
        due("empty", on(2, "9 9 1 0", "image 0 5 4 0").runsIn(1, 300), 0);
        asked("slot 0 runs once", x -> x.runsIn(0, 300), 1);
        needsText(29, "runsIn", y -> y.runsIn(0, 0), y -> y.runsIn(6, 301), y -> y.runsIn(-1, -1));
        needsSlot(29, "runsIn", (y, s) -> y.runsIn(s, 300));
        noSlot("runsIn, 301 ticks", (y, s) -> y.runsIn(s, 301));
        needsTicks(29, "runsIn", (y, ticks) -> y.runsIn(0, ticks));
        wrongNumbers("runsIn of an empty slot", Edge::busy, (y, ticks) -> y.runsIn(3, ticks), -1, 301);
    }

    private static void crashesIn() {
        promise(30, "Returns how many crashes there are until then.");
        due("at once", crashing().crashesIn(0), 0);
        due("before the first one", crashing().crashesIn(1), 0);
        due("the first one", crashing().crashesIn(2), 1);
        due("before the last one", crashing().crashesIn(299), 149);
        due("the last one", crashing().crashesIn(300), 150);
        due("hangs are none", lateRescue(60).crashesIn(300), 0);
        BootSlots x = on(1, "9 9 1 0", "image 0 5 9 1", "mark 0 1 7");
        due("at each tick", x.crashesIn(6) + " " + x.crashesIn(7) + " " + x.crashesIn(300), "6 7 7");
        asked("from now on", y -> y.crashesIn(300), 1);
        needsText(30, "crashesIn", y -> y.crashesIn(0), y -> y.crashesIn(-1), y -> y.crashesIn(301));
        needsTicks(30, "crashesIn", BootSlots::crashesIn);
    }

    private static void newerIn() {
        promise(31, "Returns behind how many ticks an image runs of which VERSION is greater than that of the one that runs"
                + " now, 1 to 300; NONE if none does, or if the machine does not run.");
        due("301 ticks ahead", late(59).newerIn(), -1);
        due("300 ticks ahead", late(60).newerIn(), 300);
        BootSlots soon = on(2, "9 9 1 0", "image 0 5 9 2", "mark 0 9 1", "image 1 6 4 0");
        due("2 ticks ahead", soon.newerIn(), 2);
        soon.tick(1);
        due("1 tick ahead", soon.newerIn(), 1);
        soon.tick(1);
        due("the newest one runs", soon.newerIn(), -1);
        due("the same VERSION", on(2, "9 9 1 0", "image 0 5 9 2", "mark 0 9 1", "image 1 5 4 0").newerIn(), -1);
        due("1 less", on(2, "9 9 1 0", "image 0 5 9 2", "mark 0 9 1", "image 1 4 4 0").newerIn(), -1);
        due("99 and 98", on(2, "9 9 1 0", "image 0 98 9 2", "mark 0 9 1", "image 1 99 4 0").newerIn(), 2);
        due("1 and 0", on(2, "9 9 1 0", "image 0 0 9 2", "mark 0 9 1", "image 1 1 4 0").newerIn(), 2);
        due("off", of(2, "9 9 1 0", "image 0 5 9 2", "mark 0 9 1", "image 1 6 4 0").newerIn(), -1);
        BootSlots rescue = on(1, "9 9 1 0");
        rescue.begin(0, 9, 4, 0, 1);
        due("rescue, though an image runs then", rescue.newerIn() + " " + rescue.slotIn(1), "-1 0");
        BootSlots install = on(2, "2 9 1 0", "image 0 5 9 0");
        install.begin(1, 6, 1, 0, 99);
        due("an install in rescue", install.newerIn(), 99);
        asked("none is newer than slot 1", BootSlots::newerIn, -1);
        needsText(31, "newerIn", BootSlots::newerIn);
    }

    private static void rescueIn() {
        promise(32, "Returns behind how many ticks the machine is in rescue, 0 to 300; NONE if it is not.");
        due("now", on(1, "9 9 1 0").rescueIn(), 0);
        BootSlots soon = on(1, "9 9 1 0", "image 0 5 9 1");
        due("1 tick ahead", soon.rescueIn(), 1);
        due("300 ticks ahead", lateRescue(60).rescueIn(), 300);
        due("301 ticks ahead", lateRescue(59).rescueIn(), -1);
        due("off", of(1, "9 9 1 0").rescueIn(), -1);
        due("never", on(1, "9 9 1 0", "image 0 5 4 0").rescueIn(), -1);
        BootSlots back = on(2, "2 9 1 0", "image 0 5 9 0");
        back.begin(1, 5, 1, 0, 3);
        due("for one tick", back.rescueIn(), 2);
        back.undo();
        back.begin(1, 5, 1, 0, 2);
        due("not behind a whole tick", back.rescueIn(), -1);
        asked("never", BootSlots::rescueIn, -1);
        needsText(32, "rescueIn", BootSlots::rescueIn);
    }

    private static void goodIn() {
        promise(33, "Returns behind how many ticks a slot is GOOD for the first time, 0 to 300; NONE if it is not.");
        due("now", of(1, "9 9 1 0", "image 0 5 4 0", "mark 0 0 0 good").goodIn(0), 0);
        due("1 tick ahead", on(1, "9 9 1 0", "image 0 5 1 0").goodIn(0), 1);
        due("300 ticks ahead", late(120).goodIn(1), 300);
        due("301 ticks ahead", late(119).goodIn(1), -1);
        due("off", of(1, "9 9 1 0", "image 0 5 1 0").goodIn(0), -1);
        due("never", late(60).goodIn(0), -1);
        due("empty", on(2, "9 9 1 0", "image 0 5 1 0").goodIn(1), -1);
        BootSlots lost = on(1, "9 1 7 0", "image 0 5 2 3", "mark 0 1 0 good");
        lost.tick(3);
        due("it was, and is again", lost.slot(0, 3) + " " + lost.goodIn(0), "0 2");
        BootSlots install = on(1, "9 9 1 0");
        install.begin(0, 5, 99, 0, 99);
        install.setNumber(2, 99);
        due("99 ticks of an install, and START 99", install.goodIn(0), 198);
        asked("at START", x -> x.goodIn(0), 0);
        needsText(33, "goodIn", y -> y.goodIn(0), y -> y.goodIn(6), y -> y.goodIn(-1));
        needsSlot(33, "goodIn", BootSlots::goodIn);
    }

    private static void calmIn() {
        promise(34, "Returns behind how many ticks the last boot is done within the next 300 ticks; 0 if there is none in"
                + " them.");
        due("301 ticks ahead: the one before counts", late(59).calmIn(), 241);
        due("300 ticks ahead", late(60).calmIn(), 300);
        due("for ever each second tick", crashing().calmIn(), 300);
        BootSlots odd = crashing();
        odd.tick(1);
        due("the other ticks", odd.calmIn(), 299);
        due("1 tick ahead", on(1, "9 9 1 0", "image 0 5 9 1").calmIn(), 1);
        due("none", on(1, "9 9 1 0", "image 0 5 4 0").calmIn(), 0);
        due("the one that was now", on(1, "9 9 1 0").calmIn(), 0);
        due("off", of(1, "9 9 1 0", "image 0 5 4 0").calmIn(), 0);
        asked("a crash", BootSlots::calmIn, 3);
        needsText(34, "calmIn", BootSlots::calmIn);
    }

    /** A GOOD slot does not hang: START and CRASH come behind WATCH, though nothing happens until then. */
    private static void behindWatch() {
        promise(27, "Returns FLOOR then.");
        BootSlots start = on(1, "1 9 1 0", "image 0 5 99 0", "mark 0 1 0 good");
        due("START 99, WATCH 1", start.floorIn(98) + " " + start.floorIn(99), "0 5");
        promise(30, "Returns how many crashes there are until then.");
        BootSlots crash = on(1, "1 9 1 0", "image 0 5 1 99", "mark 0 1 0 good");
        due("CRASH 99, WATCH 1", crash.crashesIn(98) + " " + crash.crashesIn(99), "0 1");
        promise(32, "Returns behind how many ticks the machine is in rescue, 0 to 300; NONE if it is not.");
        BootSlots rescue = on(1, "1 1 0 0", "image 0 5 1 99", "mark 0 1 0 good");
        due("LIMIT 1, RETRY 0", rescue.rescueIn(), 99);
        BootSlots both = on(1, "1 1 0 0", "image 0 5 98 99", "mark 0 1 0 good");
        promise(33, "Returns behind how many ticks a slot is GOOD for the first time, 0 to 300; NONE if it is not.");
        due("GOOD now", both.goodIn(0) + " " + both.rescueIn(), "0 99");
    }

    private static void triesIn() {
        promise(35, "Returns TRIES of a slot then.");
        due("at once", late(60).triesIn(0, 0), 4);
        due("before the hang", late(60).triesIn(0, 59), 4);
        due("at the hang", late(60).triesIn(0, 60), 3);
        due("none is left", late(60).triesIn(0, 240), 0);
        due("299 of 300 ticks", late(60).triesIn(1, 299), 1);
        due("300 ticks", late(60).triesIn(1, 300), 0);
        due("7 stay", of(1, "9 9 1 0", "image 0 5 4 0", "mark 0 0 7").triesIn(0, 300), 7);
        BootSlots lost = on(1, "9 1 7 0", "image 0 5 9 3", "mark 0 1 0 good");
        due("RETRY, less the boot", lost.triesIn(0, 2) + " " + lost.triesIn(0, 3), "0 6");
        BootSlots good = on(1, "9 1 7 0", "image 0 5 9 0", "mark 0 1 7");
        due("START", good.triesIn(0, 8) + " " + good.triesIn(0, 9), "6 0");
        BootSlots second = on(1, "9 2 7 0", "image 0 5 9 3", "mark 0 1 0 good");
        due("the first of two FAULTS", second.triesIn(0, 5) + " " + second.triesIn(0, 6), "0 6");
        second.tick(3);
        due("FAULTS as they are now", second.triesIn(0, 2) + " " + second.triesIn(0, 3), "0 6");
        asked("an install in 8 ticks", x -> x.triesIn(3, 7), 0);
        asked("an install in 8 ticks, behind them", x -> x.triesIn(3, 8), 3);
        needsText(35, "triesIn", y -> y.triesIn(0, 0), y -> y.triesIn(6, 301), y -> y.triesIn(-1, -1));
        needsSlot(35, "triesIn", (y, s) -> y.triesIn(s, 300));
        noSlot("triesIn, 301 ticks", (y, s) -> y.triesIn(s, 301));
        needsTicks(35, "triesIn", (y, ticks) -> y.triesIn(0, ticks));
        wrongNumbers("triesIn of an empty slot", Edge::busy, (y, ticks) -> y.triesIn(3, ticks), -1, 301);
    }
}
