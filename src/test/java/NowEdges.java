/** The boundary cases of promises 7 to 11: the machine as it is. */
final class NowEdges extends Edge {
    private static final String WHAT = "Throws `IllegalArgumentException` if what is out of range";
    private static final String[] SIX_GOOD = {"image 0 5 4 0", "mark 0 1 7 good", "image 1 5 4 0", "mark 1 1 7 good",
        "image 2 5 4 0", "mark 2 1 7 good", "image 3 5 4 0", "mark 3 1 7 good", "image 4 5 4 0", "mark 4 1 7 good",
        "image 5 5 4 0", "mark 5 1 7 good"};

    static void all() {
        countNumbers();
        countState();
        countSlots();
        countBoots();
        countTries();
        countEvents();
        countThrows();
        slotNow();
        slotSoFar();
        slotThrows();
        imageNow();
        installNow();
        bootNow();
        bootThrows();
    }

    private static void countNumbers() {
        promise(7, "Returns a count.");
        promise(7, "Returns the count.");
        promise(7, "- `what`: 0 slots");
        due("one", of(1, "9 9 1 0").count(0), 1);
        due("six", of(6, "9 9 1 0", SIX_GOOD).count(0), 6);
        promise(7, "1 the time");
        BootSlots x = of(1, "9 9 1 0");
        due("at first", x.count(1), 0);
        for (int i = 0; i < 33; i++) {
            x.tick(300);
        }
        x.tick(99);
        due("the last one", x.count(1), 9999);
        promise(7, "2 WATCH, 3 LIMIT, 4 RETRY, 5 FLOOR");
        BootSlots least = of(1, "1 1 0 0");
        due("the least", least.count(2) + " " + least.count(3) + " " + least.count(4) + " " + least.count(5), "1 1 0 0");
        BootSlots most = of(1, "99 9 7 98");
        due("the greatest", most.count(2) + " " + most.count(3) + " " + most.count(4) + " " + most.count(5), "99 9 7 98");
    }

    private static void countState() {
        promise(7, "6 0 if the machine is off, 1 if it runs, 2 if it is in rescue");
        promise(7, "7 the slot that runs (NONE)");
        promise(7, "8 AGE (0 unless it runs)");
        BootSlots x = of(6, "9 9 1 0", "image 5 5 20 0", "mark 5 1 1 good");
        due("off", state(x), "0 -1 0");
        x.power();
        due("it runs", state(x), "1 5 0");
        x.tick(300);
        x.tick(20);
        due("AGE has no greatest value", state(x), "1 5 320");
        x.cut();
        due("off again", state(x), "0 -1 0");
        x.spoil(5, 0);
        x.power();
        x.tick(3);
        due("rescue", state(x), "2 -1 0");
        due("slot 0 runs", state(on(1, "9 9 1 0", "image 0 5 4 0")), "1 0 0");
    }

    private static String state(BootSlots x) {
        return x.count(6) + " " + x.count(7) + " " + x.count(8);
    }

    private static void countSlots() {
        promise(7, "9 slots that can be booted");
        promise(7, "10 GOOD slots");
        promise(7, "11 TRIES of all slots");
        due("none", slots(of(1, "9 9 1 0")), "0 0 0");
        due("all six", slots(of(6, "9 9 1 0", SIX_GOOD)), "6 6 42");
        due("those that cannot be booted: only 10 and 11", slots(of(6, "9 9 1 6", SIX_GOOD)), "0 6 42");
        due("not GOOD", slots(of(2, "9 9 1 0", "image 1 5 4 0", "mark 1 1 1")), "1 0 1");
    }

    private static String slots(BootSlots x) {
        return x.count(9) + " " + x.count(10) + " " + x.count(11);
    }

    private static void countBoots() {
        promise(7, "12 boots so far");
        BootSlots x = of(6, "9 9 1 0", SIX_GOOD);
        due("none", x.count(12), 0);
        x.power();
        due("one", x.count(12), 1);
        for (int i = 0; i < 30; i++) {
            x.reboot();
        }
        due("more than are kept", x.count(12), 31);
        x.cut();
        due("a cut is no boot", x.count(12), 31);
        due("one to rescue", on(1, "9 9 1 0").count(12), 1);
    }

    private static void countTries() {
        promise(7, "13 tries so far (boots of slots that were not GOOD, damaged ones too)");
        due("none", of(6, "9 9 1 0", SIX_GOOD).count(13), 0);
        due("GOOD", on(6, "9 9 1 0", SIX_GOOD).count(13), 0);
        due("GOOD and damaged", on(1, "9 9 1 0", "image 0 5 4 0 damaged", "mark 0 1 1 good").count(13), 0);
        due("not GOOD", on(1, "9 9 1 0", "image 0 5 4 0").count(13), 1);
        BootSlots x = on(2, "9 9 1 0", "image 0 5 4 0 damaged", "mark 0 9 1", "image 1 5 4 0");
        due("not GOOD, two, one is damaged", x.count(13), 2);
        x.tick(4);
        x.reboot();
        due("GOOD since then", x.count(13), 2);
        due("rescue", on(1, "9 9 1 0").count(13), 0);
        promise(7, "14 slots given up so far");
        due("one", x.count(14), 1);
        x.mark(0, 9, 1);
        x.reboot();
        due("the same one again", x.count(14) + " " + x.count(13), "2 3");
        due("none", on(6, "9 9 1 0", SIX_GOOD).count(14), 0);
    }

    private static void countEvents() {
        promise(7, "15 crashes so far");
        promise(7, "16 hangs so far");
        promise(7, "17 successes so far (slots that became GOOD)");
        BootSlots x = on(1, "5 1 3 0", "image 0 5 4 6", "mark 0 1 7");
        due("none", events(x), "0 0 0");
        x.tick(3);
        due("before the success", events(x), "0 0 0");
        x.tick(1);
        due("the success", events(x), "0 0 1");
        x.tick(2);
        due("the crash", events(x), "1 0 1");
        due("GOOD no more", x.slot(0, 3), 0);
        x.tick(4);
        due("the second success of the slot", events(x), "1 0 2");
        x.reboot();
        x.tick(4);
        due("GOOD before: no success", events(x), "1 0 2");
        BootSlots hangs = on(1, "3 1 3 0", "image 0 5 4 6", "mark 0 1 7");
        hangs.tick(6);
        due("two hangs", events(hangs), "0 2 0");
        promise(7, "18 ticks in rescue so far (ticks at whose beginning it was in rescue)");
        BootSlots rescue = on(1, "2 9 1 0", "image 0 5 9 0");
        rescue.tick(2);
        due("the tick that led there", rescue.count(18) + " " + rescue.count(6), "0 2");
        rescue.tick(1);
        due("the next one", rescue.count(18), 1);
        rescue.begin(0, 5, 2, 0, 1);
        rescue.tick(1);
        due("the one that leads out", rescue.count(18) + " " + rescue.count(6), "2 1");
        rescue.tick(1);
        due("the next one again", rescue.count(18), 2);
        promise(7, "19 installs that ended so far");
        due("one", rescue.count(19), 1);
        rescue.cut();
        due("one still", rescue.count(19), 1);
        due("none", busy().count(19), 0);
        BootSlots last = busy();
        last.tick(7);
        due("a tick ahead", last.count(19), 0);
        last.tick(1);
        due("ended", last.count(19), 1);
        BootSlots lost = busy();
        lost.cut();
        due("a lost one has not ended", lost.count(19), 0);
    }

    private static String events(BootSlots x) {
        return x.count(15) + " " + x.count(16) + " " + x.count(17);
    }

    private static void countThrows() {
        needsText(7, "count", x -> x.count(0), x -> x.count(19), x -> x.count(20), x -> x.count(-1));
        promise(7, WHAT);
        takes("count(0)", Edge::busy, x -> x.count(0));
        takes("count(19)", Edge::busy, x -> x.count(19));
        wrongNumbers("count", Edge::busy, BootSlots::count, -1, 20, LEAST, GREATEST);
    }

    private static String slot(BootSlots x, int s, int from, int to) {
        StringBuilder told = new StringBuilder();
        for (int what = from; what <= to; what++) {
            told.append(what == from ? "" : " ").append(x.slot(s, what));
        }
        return told.toString();
    }

    private static void slotNow() {
        promise(8, "Returns a property of a slot.");
        promise(8, "- `what`: 0 1 if it has an image, otherwise 0, 1 PRIORITY, 2 TRIES, 3 1 if it is GOOD, otherwise 0,"
                + " 4 FAULTS, 5 1 if it can be booted, otherwise 0");
        BootSlots x = of(6, "9 9 1 0", "image 0 5 4 0", "mark 0 0 0", "image 5 5 4 3", "mark 5 15 7 good");
        due("the least", slot(x, 0, 0, 5), "1 0 0 0 0 0");
        due("empty", slot(x, 1, 0, 5), "0 0 0 0 0 0");
        due("the greatest", slot(x, 5, 0, 5), "1 15 7 1 0 1");
        x.power();
        x.tick(3);
        due("FAULTS", slot(x, 5, 0, 5), "1 15 7 1 1 1");
    }

    private static void slotSoFar() {
        promise(8, "6 how often it ran so far, 7 tries of it so far, 8 successes of it so far");
        BootSlots x = on(3, "9 9 1 0", "image 0 5 4 0", "mark 0 3 2", "image 1 5 4 0 damaged", "mark 1 9 2",
                "image 2 5 4 0", "mark 2 1 1 good");
        due("it ran by one try", slot(x, 0, 6, 8), "1 1 0");
        due("a try of a damaged one", slot(x, 1, 6, 8), "0 1 0");
        due("one that was not booted", slot(x, 2, 6, 8), "0 0 0");
        x.tick(4);
        due("a success", slot(x, 0, 6, 8), "1 1 1");
        x.reboot();
        due("GOOD: no try", slot(x, 0, 6, 8), "2 1 1");
        promise(8, "Returns the property (6 to 8 also count for images that it had).");
        x.mark(2, 15, 0);
        x.reboot();
        x.begin(0, 1, 1, 0, 1);
        due("empty", slot(x, 0, 0, 8), "0 0 0 0 0 0 2 1 1");
        x.tick(1);
        due("another image", slot(x, 0, 6, 8), "2 1 1");
        BootSlots y = on(2, "9 9 1 0", "image 0 5 4 0", "image 1 5 4 0", "mark 1 1 0 good");
        due("GOOD first", slot(y, 1, 6, 8), "1 0 0");
        y.begin(0, 9, 1, 0, 1);
        y.tick(1);
        y.reboot();
        y.tick(1);
        due("a success of the second image", slot(y, 0, 6, 8), "1 1 1");
        y.mark(1, 9, 0);
        y.reboot();
        due("both count on", slot(y, 1, 6, 8) + " " + slot(y, 0, 6, 8), "2 0 0 1 1 1");
    }

    private static void slotThrows() {
        needsText(8, "slot", x -> x.slot(0, 0), x -> x.slot(6, 9), x -> x.slot(-1, -1));
        needsSlot(8, "slot", (x, s) -> x.slot(s, 0));
        noSlot("slot, what 9", (x, s) -> x.slot(s, 9));
        promise(8, WHAT);
        takes("slot(0, 8)", Edge::busy, x -> x.slot(0, 8));
        wrongNumbers("slot 0", Edge::busy, (x, what) -> x.slot(0, what), -1, 9, LEAST, GREATEST);
        wrongNumbers("an empty slot", Edge::busy, (x, what) -> x.slot(3, what), -1, 9);
    }

    private static String image(BootSlots x, int s) {
        return x.image(s, 0) + " " + x.image(s, 1) + " " + x.image(s, 2) + " " + x.image(s, 3) + " " + x.image(s, 4);
    }

    private static void imageNow() {
        promise(9, "Returns a property of the image of a slot.");
        promise(9, "- `what`: 0 VERSION, 1 START, 2 CRASH, 3 1 if it is unsigned, otherwise 0, 4 1 if it is damaged,"
                + " otherwise 0");
        BootSlots x = of(4, "9 9 1 0", "image 0 0 1 0", "image 1 99 99 99 unsigned damaged", "image 2 1 2 3 damaged");
        due("the least", image(x, 0), "0 1 0 0 0");
        due("the greatest", image(x, 1), "99 99 99 1 1");
        due("damaged alone", image(x, 2), "1 2 3 0 1");
        promise(9, "Returns the property; NONE if the slot is empty.");
        due("empty", image(x, 3), "-1 -1 -1 -1 -1");
        due("emptied by an install that is on", image(busy(), 3), "-1 -1 -1 -1 -1");
        needsText(9, "image", y -> y.image(0, 0), y -> y.image(6, 5), y -> y.image(-1, -1));
        needsSlot(9, "image", (y, s) -> y.image(s, 0));
        noSlot("image, what 5", (y, s) -> y.image(s, 5));
        promise(9, WHAT);
        takes("image(0, 0)", Edge::busy, y -> y.image(0, 0));
        takes("image(0, 4)", Edge::busy, y -> y.image(0, 4));
        wrongNumbers("image of slot 0", Edge::busy, (y, what) -> y.image(0, what), -1, 5, LEAST, GREATEST);
        wrongNumbers("image of an empty slot", Edge::busy, (y, what) -> y.image(3, what), -1, 5, LEAST, GREATEST);
    }

    private static String install(BootSlots x) {
        return x.install(0) + " " + x.install(1) + " " + x.install(2) + " " + x.install(3);
    }

    private static void installNow() {
        promise(10, "Returns a property of the install that is on.");
        promise(10, "- `what`: 0 its slot, 1 the ticks that are left, 2 VERSION, 3 TRIES");
        BootSlots first = six();
        first.begin(0, 0, 1, 0, 1);
        due("the least", install(first), "0 1 0 3");
        BootSlots last = six();
        last.begin(5, 99, 99, 99, 99);
        due("the greatest", install(last), "5 99 99 3");
        last.tick(98);
        due("a tick ahead of its end", install(last), "5 1 99 3");
        promise(10, "Returns the property; NONE if there is none.");
        last.tick(1);
        due("ended", install(last), "-1 -1 -1 -1");
        due("before the first one", install(six()), "-1 -1 -1 -1");
        first.cut();
        due("lost", install(first), "-1 -1 -1 -1");
        needsText(10, "install", x -> x.install(0), x -> x.install(4), x -> x.install(-1));
        promise(10, WHAT);
        takes("install(0)", Edge::busy, x -> x.install(0));
        takes("install(3)", Edge::busy, x -> x.install(3));
        wrongNumbers("install", Edge::busy, BootSlots::install, -1, 4, LEAST, GREATEST);
        wrongNumbers("install, none is on", Edge::six, BootSlots::install, -1, 4, LEAST, GREATEST);
    }

    private static String boot(BootSlots x, int ago) {
        return x.boot(ago, 0) + " " + x.boot(ago, 1) + " " + x.boot(ago, 2) + " " + x.boot(ago, 3);
    }

    private static void bootNow() {
        promise(11, "Returns a property of a boot that is kept.");
        promise(11, "- `ago`: 0 for the latest one");
        promise(11, "- `what`: 0 the time, 1 the cause, 2 the slots that were given up, as a bit set, 3 the slot that ran"
                + " by it (NONE: rescue)");
        BootSlots x = of(6, "9 9 1 0", "image 0 5 4 0 damaged", "mark 0 15 7", "image 5 5 4 0 damaged", "mark 5 15 7",
                "image 4 5 4 3", "mark 4 1 1");
        for (int i = 0; i < 33; i++) {
            x.tick(300);
        }
        x.tick(96);
        x.power();
        x.tick(3);
        due("the latest one, to rescue at the last time", boot(x, 0), "9999 2 0 -1");
        due("the one ahead, with the first and the last slot given up", boot(x, 1), "9996 0 33 4");
        promise(11, "Returns the property; -2 if there is no such boot.");
        due("before all", boot(x, 2), "-2 -2 -2 -2");
        due("ahead of now", boot(x, -1), "-2 -2 -2 -2");
        due("the greatest number", boot(x, GREATEST), "-2 -2 -2 -2");
        due("the least number", boot(x, LEAST), "-2 -2 -2 -2");
        due("no boots", boot(of(1, "9 9 1 0"), 0), "-2 -2 -2 -2");
        BootSlots many = on(6, "9 9 1 0", SIX_GOOD);
        for (int i = 0; i < 11; i++) {
            many.tick(1);
            many.reboot();
        }
        due("the first of twelve", boot(many, 11), "0 0 0 0");
        due("none ahead", boot(many, 12), "-2 -2 -2 -2");
        many.reboot();
        due("the second of thirteen", boot(many, 11), "1 1 0 0");
        due("the first is kept no more", boot(many, 12), "-2 -2 -2 -2");
    }

    private static void bootThrows() {
        needsText(11, "boot", x -> x.boot(0, 0), x -> x.boot(0, 4), x -> x.boot(-1, -1));
        promise(11, WHAT);
        takes("boot(0, 0)", Edge::busy, x -> x.boot(0, 0));
        takes("boot(0, 3)", Edge::busy, x -> x.boot(0, 3));
        wrongNumbers("boot 0", Edge::busy, (x, what) -> x.boot(0, what), -1, 4, LEAST, GREATEST);
        wrongNumbers("a boot that is not kept", Edge::busy, (x, what) -> x.boot(12, what), -1, 4, LEAST, GREATEST);
        wrongNumbers("a boot ahead of now", Edge::busy, (x, what) -> x.boot(-1, what), -1, 4);
    }
}
