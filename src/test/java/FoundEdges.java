/** The boundary cases of promises 12 to 24: what is found. */
final class FoundEdges extends Edge {
    /** The loader's order is 3, 4, 1, 5, 0, 2; all can be booted. */
    private static final String[] ORDER = {"image 0 8 4 0", "mark 0 5 1", "image 1 7 4 0", "mark 1 5 2 good",
        "image 2 8 4 0", "mark 2 5 1", "image 3 1 4 0", "mark 3 6 1", "image 4 9 4 0", "mark 4 5 0 good",
        "image 5 9 4 0", "mark 5 5 3"};

    static void all() {
        whyNot();
        choice();
        place();
        newest();
        spare();
        spareOfOthers();
        fallback();
        weakest();
        twins();
        sinking();
        floorWith();
        mayHold();
        mostBoots();
        bootsOf();
    }

    private static void asked(String what, Call call, Object busy) {
        asks(what, Edge::busy, call, busy);
    }

    private static int why(String numbers, String... lines) {
        return of(1, numbers, lines).whyNot(0);
    }

    private static void whyNot() {
        promise(12, "Tells why a slot cannot be booted: 1 it is empty, 2 its image is unsigned, 3 VERSION is less than"
                + " FLOOR, 4 PRIORITY is 0, 5 it is not GOOD and has no TRIES; the smallest number that applies.");
        due("1, and 4 and 5", why("9 9 1 50"), 1);
        due("2, and all that follow", why("9 9 1 50", "image 0 49 4 0 unsigned", "mark 0 0 0"), 2);
        due("2 alone", why("9 9 1 50", "image 0 50 4 0 unsigned", "mark 0 1 1"), 2);
        due("3, and all that follow", why("9 9 1 50", "image 0 49 4 0", "mark 0 0 0"), 3);
        due("3 alone", why("9 9 1 50", "image 0 49 4 0", "mark 0 15 7 good"), 3);
        due("4, and 5", why("9 9 1 50", "image 0 50 4 0", "mark 0 0 0"), 4);
        due("4 alone", why("9 9 1 50", "image 0 50 4 0", "mark 0 0 0 good"), 4);
        due("4 with TRIES", why("9 9 1 50", "image 0 50 4 0", "mark 0 0 7"), 4);
        due("5", why("9 9 1 50", "image 0 50 4 0", "mark 0 1 0"), 5);
        promise(12, "Returns that number; 0 if it can be booted.");
        due("one of the TRIES", why("9 9 1 50", "image 0 50 4 0", "mark 0 1 1"), 0);
        due("GOOD", why("9 9 1 50", "image 0 50 4 0 damaged", "mark 0 1 0 good"), 0);
        asked("whyNot of a slot with an install", x -> x.whyNot(3), 1);
        needsText(12, "whyNot", x -> x.whyNot(0), x -> x.whyNot(-1), x -> x.whyNot(6));
        needsSlot(12, "whyNot", BootSlots::whyNot);
    }

    private static void choice() {
        promise(13, "Returns the slot that the loader would take first if the machine booted now; NONE if there is none.");
        BootSlots x = of(6, "9 9 1 0", ORDER);
        int[] order = {3, 4, 1, 5, 0, 2};
        for (int s : order) {
            due("first", x.choice(), s);
            x.spoil(s, 0);
        }
        due("none is left", x.choice(), -1);
        due("empty", of(1, "9 9 1 0").choice(), -1);
        due("first, though damaged", of(2, "9 9 1 0", "image 0 5 4 0", "image 1 5 4 0 damaged", "mark 1 2 1").choice(), 1);
        asked("choice while another one runs", BootSlots::choice, 2);
        needsText(13, "choice", BootSlots::choice);
    }

    private static void place() {
        promise(14, "Returns how many slots that can be booted the loader prefers to a slot; NONE if it cannot be booted.");
        int[] places = {4, 2, 5, 0, 1, 3};
        for (int s = 0; s < 6; s++) {
            due("of six, slot " + s, of(6, "9 9 1 0", ORDER).place(s), places[s]);
        }
        BootSlots x = of(6, "9 9 1 0", ORDER);
        x.spoil(3, 0);
        due("first now", x.place(4), 0);
        due("last now", x.place(2), 4);
        due("it cannot be booted", x.place(3), -1);
        due("empty", of(1, "9 9 1 0").place(0), -1);
        due("alone", of(1, "9 9 1 0", "image 0 5 4 0").place(0), 0);
        asked("the second", y -> y.place(0), 1);
        needsText(14, "place", y -> y.place(0), y -> y.place(6), y -> y.place(-1));
        needsSlot(14, "place", BootSlots::place);
    }

    private static void newest() {
        promise(15, "Returns the slot with the greatest VERSION, of several the smallest number; NONE if all are empty.");
        due("the last one", of(6, "9 9 1 0", "image 0 98 1 0", "image 5 99 1 0").newest(), 5);
        due("of two", of(6, "9 9 1 0", "image 0 98 1 0", "image 4 99 1 0", "image 5 99 1 0").newest(), 4);
        due("the first one", of(6, "9 9 1 0", "image 0 99 1 0", "image 5 99 1 0").newest(), 0);
        due("VERSION 0", of(6, "9 9 1 0", "image 5 0 1 0").newest(), 5);
        due("it cannot be booted", of(2, "9 9 1 99", "image 0 2 1 0", "image 1 3 1 0 unsigned damaged", "mark 1 0 0")
                .newest(), 1);
        due("all are empty", of(6, "9 9 1 0").newest(), -1);
        asked("an image of an install is in no slot", BootSlots::newest, 1);
        needsText(15, "newest", BootSlots::newest);
    }

    private static void spare() {
        promise(16, "Returns the slot into which an install would hurt least: of those that do not run and for which no"
                + " install is on, an empty one, otherwise one that cannot be booted, otherwise the one that the loader"
                + " would take last, of several the smallest number (of empty ones, or of those that cannot be booted);"
                + " NONE if there is none.");
        due("the first of empty ones", of(6, "9 9 1 0").spare(), 0);
        due("the last one is empty", of(3, "9 9 1 0", "image 0 5 4 0 unsigned", "image 1 5 4 0").spare(), 2);
        due("of two empty ones", of(3, "9 9 1 0", "image 0 5 4 0").spare(), 1);
        due("of two that cannot be booted", of(3, "9 9 1 0", "image 0 5 4 0", "image 1 9 4 0", "mark 1 0 1",
                "image 2 5 4 0 unsigned").spare(), 1);
        due("the last of the order", of(6, "9 9 1 0", ORDER).spare(), 2);
        due("of equal ones the loader takes the last number last", of(3, "9 9 1 0", "image 0 5 4 0", "image 1 5 4 0",
                "image 2 5 4 0").spare(), 2);
        due("one slot that does not run", of(1, "9 9 1 0", "image 0 5 4 0").spare(), 0);
        due("one slot that runs", on(1, "9 9 1 0", "image 0 5 4 0").spare(), -1);
    }

    private static void spareOfOthers() {
        BootSlots last = on(6, "9 9 1 0", ORDER);
        last.mark(2, 15, 1);
        last.reboot();
        due("the last of those that do not run; slot 3 has no TRIES left", last.count(7) + " " + last.spare(), "2 3");
        BootSlots runs = on(2, "9 9 1 0", "image 0 5 4 0", "mark 0 2 1 good", "image 1 5 4 0");
        due("slot 0 runs", runs.spare(), 1);
        runs.mark(0, 0, 0);
        due("the slot that runs cannot be booted", runs.spare(), 1);
        runs.begin(1, 5, 4, 0, 3);
        due("the other one has an install", runs.spare(), -1);
        runs.cut();
        due("off, and empty", runs.spare(), 1);
        BootSlots alone = on(1, "9 9 1 0");
        due("rescue", alone.spare(), 0);
        alone.begin(0, 5, 4, 0, 3);
        due("rescue and an install", alone.spare(), -1);
        asked("slot 3 has an install, slot 1 runs: slot 0 is the last of the order", BootSlots::spare, 0);
        needsText(16, "spare", BootSlots::spare);
    }

    private static void fallback() {
        promise(17, "Returns the slot that the loader would take first if the machine booted now and the slot that runs"
                + " could not be booted; NONE if there is none, or if the machine does not run.");
        due("off", of(6, "9 9 1 0", ORDER).fallback(), -1);
        due("the second", on(6, "9 9 1 0", ORDER).fallback(), 4);
        due("none", on(1, "9 9 1 0", "image 0 5 4 0", "mark 0 1 7").fallback(), -1);
        BootSlots x = on(2, "9 9 1 0", "image 0 5 4 0", "image 1 5 4 0");
        due("equal to the slot that runs", x.fallback(), 1);
        x.mark(1, 15, 1);
        due("greater than the slot that runs", x.fallback(), 1);
        x.mark(1, 15, 0);
        due("it cannot be booted", x.fallback(), -1);
        BootSlots rescue = on(1, "9 9 1 0");
        rescue.begin(0, 5, 4, 0, 3);
        due("rescue", rescue.fallback(), -1);
        due("rescue, a slot can be booted", markedInRescue().fallback(), -1);
        asked("slot 1 runs, and is not the first", BootSlots::fallback, 2);
        needsText(17, "fallback", BootSlots::fallback);
    }

    private static BootSlots markedInRescue() {
        BootSlots x = one();
        x.mark(0, 1, 1);
        return x;
    }

    private static void weakest() {
        promise(18, "Returns the slot with the fewest TRIES of those that can be booted and are not GOOD, of several the"
                + " smallest number; NONE if there is none.");
        due("of several", of(6, "9 9 1 0", ORDER).weakest(), 0);
        due("7 and 7", of(2, "9 9 1 0", "image 0 5 4 0", "mark 0 1 7", "image 1 5 4 0", "mark 1 1 7").weakest(), 0);
        due("7 and 6", of(2, "9 9 1 0", "image 0 5 4 0", "mark 0 1 7", "image 1 5 4 0", "mark 1 1 6").weakest(), 1);
        due("0 cannot be booted", of(2, "9 9 1 0", "image 0 5 4 0", "mark 0 1 0", "image 1 5 4 0", "mark 1 1 7").weakest(),
                1);
        due("GOOD with 0", of(2, "9 9 1 0", "image 0 5 4 0", "mark 0 1 0 good", "image 1 5 4 0", "mark 1 1 7").weakest(),
                1);
        due("GOOD alone", of(1, "9 9 1 0", "image 0 5 4 0", "mark 0 1 1 good").weakest(), -1);
        due("empty", of(6, "9 9 1 0").weakest(), -1);
        due("PRIORITY 0", of(1, "9 9 1 0", "image 0 5 4 0", "mark 0 0 1").weakest(), -1);
        asked("slot 1 has none left", BootSlots::weakest, 2);
        needsText(18, "weakest", BootSlots::weakest);
    }

    private static void twins() {
        promise(19, "Returns the other slots with an image of the same VERSION, as a bit set; 0 if the slot is empty.");
        String[] alike = {"image 0 7 4 0", "image 1 7 5 0 unsigned", "image 2 7 4 9", "image 3 7 4 0 damaged",
            "image 4 7 4 0", "image 5 7 4 0"};
        due("five of the first", of(6, "9 9 1 0", alike).twins(0), 62);
        due("five of the last", of(6, "9 9 1 0", alike).twins(5), 31);
        due("none", of(2, "9 9 1 0", "image 0 7 4 0", "image 1 8 4 0").twins(0), 0);
        due("an empty one has no VERSION 0", of(2, "9 9 1 0", "image 0 0 4 0").twins(0), 0);
        due("empty", of(2, "9 9 1 0", "image 0 0 4 0").twins(1), 0);
        due("two are empty", of(2, "9 9 1 0").twins(1), 0);
        BootSlots x = on(2, "9 9 1 0", "image 0 7 4 0", "image 1 7 4 0");
        x.begin(1, 7, 4, 0, 2);
        due("not while the install is on", x.twins(0) + " " + x.twins(1), "0 0");
        x.tick(2);
        due("behind its end", x.twins(0) + " " + x.twins(1), "2 1");
        asked("none of slot 0", y -> y.twins(0), 0);
        needsText(19, "twins", y -> y.twins(0), y -> y.twins(6), y -> y.twins(-1));
        needsSlot(19, "twins", BootSlots::twins);
    }

    private static void sinking() {
        promise(20, "Returns the slots with an image that FLOOR shuts out now, as a bit set.");
        String[] images = {"image 0 49 4 0", "image 1 50 4 0", "image 2 51 4 0", "image 3 0 4 0 unsigned",
            "image 5 49 4 0", "mark 5 0 0"};
        due("less than 50", of(6, "9 9 1 50", images).sinking(), 1 + 8 + 32);
        due("less than 0", of(6, "9 9 1 0", images).sinking(), 0);
        due("less than 99", of(6, "9 9 1 99", images).sinking(), 1 + 2 + 4 + 8 + 32);
        due("empty", of(6, "9 9 1 99").sinking(), 0);
        BootSlots x = of(6, "9 9 1 50", images);
        x.setNumber(5, 51);
        due("one more", x.sinking(), 1 + 2 + 8 + 32);
        asked("none", BootSlots::sinking, 0);
        needsText(20, "sinking", BootSlots::sinking);
    }

    private static int floorWith(String floor, int s, String... lines) {
        return of(3, "9 9 1 " + floor, lines).floorWith(s);
    }

    private static void floorWith() {
        promise(21, "Returns what FLOOR would be if a slot had just succeeded; FLOOR as it is if it is empty.");
        due("greater", floorWith("49", 0, "image 0 50 4 0"), 50);
        due("the same", floorWith("50", 0, "image 0 50 4 0"), 50);
        due("less", floorWith("51", 0, "image 0 50 4 0"), 51);
        due("99", floorWith("0", 0, "image 0 99 4 0"), 99);
        due("0", floorWith("0", 0, "image 0 0 4 0"), 0);
        String[] good = {"image 0 50 4 0", "image 1 8 4 0", "mark 1 0 0 good"};
        due("another GOOD one is less", floorWith("7", 0, good), 8);
        due("another GOOD one is less than FLOOR", floorWith("9", 0, good), 9);
        due("a GOOD one is greater", floorWith("7", 0, "image 0 50 4 0", "image 1 60 4 0", "mark 1 1 1 good"), 50);
        due("it is GOOD itself", floorWith("7", 1, good), 8);
        due("empty", floorWith("7", 2, good), 7);
        due("empty, no GOOD one", floorWith("7", 2, "image 0 50 4 0"), 7);
        due("it could not be booted", floorWith("7", 0, "image 0 50 4 0 unsigned damaged", "mark 0 0 0"), 50);
        asked("slot 1 with GOOD slot 0", x -> x.floorWith(1), 5);
        needsText(21, "floorWith", x -> x.floorWith(0), x -> x.floorWith(6), x -> x.floorWith(-1));
        needsSlot(21, "floorWith", BootSlots::floorWith);
    }

    private static boolean holds(String image, String... lines) {
        BootSlots x = of(2, "50 9 1 99", "image 0 5 " + image);
        if (lines.length > 0) {
            x = of(2, "50 9 1 99", "image 0 5 " + image, lines[0]);
        }
        return x.mayHold(0);
    }

    private static void mayHold() {
        promise(22, "Returns whether a slot would succeed in some run, if it was not damaged, however often it ran (CRASH is"
                + " 0 or greater than START, and it is GOOD or START is at most WATCH); false if it is empty.");
        due("START is WATCH", holds("50 0"), true);
        due("START is 1 more than WATCH", holds("51 0"), false);
        due("START is 1 more than WATCH, GOOD", holds("51 0", "mark 0 0 0 good"), true);
        due("CRASH is START", holds("9 9"), false);
        due("CRASH is 1 more than START", holds("9 10"), true);
        due("CRASH is 1 less than START", holds("9 8"), false);
        due("CRASH is 1, START is 1", holds("1 1"), false);
        due("CRASH 0", holds("1 0"), true);
        due("CRASH is START, GOOD", holds("9 9", "mark 0 15 7 good"), false);
        due("CRASH is 1 more than START, behind WATCH", holds("51 52"), false);
        due("damaged, unsigned, no TRIES, shut out by FLOOR", holds("50 51 unsigned damaged", "mark 0 0 0"), true);
        due("empty", of(2, "50 9 1 99").mayHold(0), false);
        asked("CRASH 3 is less than START 4", x -> x.mayHold(1), false);
        needsText(22, "mayHold", x -> x.mayHold(0), x -> x.mayHold(6), x -> x.mayHold(-1));
        needsSlot(22, "mayHold", BootSlots::mayHold);
    }

    private static void mostBoots() {
        promise(23, "Returns how many boots of slots that are not GOOD there can be at most, if nothing is installed and no"
                + " slot that is GOOD loses that: TRIES of all slots that can be booted (of GOOD ones, too) together.");
        due("none", of(6, "9 9 1 0").mostBoots(), 0);
        due("GOOD ones, too", of(6, "9 9 1 0", ORDER).mostBoots(), 8);
        String[] full = {"image 0 5 4 0", "mark 0 1 7", "image 1 5 4 0", "mark 1 1 7", "image 2 5 4 0", "mark 2 1 7",
            "image 3 5 4 0", "mark 3 1 7", "image 4 5 4 0", "mark 4 1 7 good", "image 5 5 4 0", "mark 5 1 7"};
        due("all", of(6, "9 9 1 5", full).mostBoots(), 42);
        due("none can be booted", of(6, "9 9 1 6", full).mostBoots(), 0);
        due("not that with PRIORITY 0", of(2, "9 9 1 0", "image 0 5 4 0", "mark 0 0 7", "image 1 5 4 0").mostBoots(), 1);
        asked("slot 2 alone", BootSlots::mostBoots, 1);
        needsText(23, "mostBoots", BootSlots::mostBoots);
    }

    private static void bootsOf() {
        promise(24, "Returns how many of the boots that are kept made a slot run.");
        BootSlots x = of(2, "9 9 1 0", "image 0 5 4 0", "mark 0 9 7", "image 1 5 4 0", "mark 1 1 0 good");
        due("no boots", x.bootsOf(0), 0);
        x.power();
        for (int i = 1; i < 12; i++) {
            x.reboot();
        }
        due("seven and five of twelve", x.bootsOf(0) + " " + x.bootsOf(1), "7 5");
        x.reboot();
        due("the first one is kept no more", x.bootsOf(0) + " " + x.bootsOf(1), "6 6");
        for (int i = 0; i < 6; i++) {
            x.reboot();
        }
        due("twelve of one slot", x.bootsOf(0) + " " + x.bootsOf(1), "0 12");
        x.spoil(1, 1);
        x.reboot();
        due("rescue is of no slot", x.bootsOf(0) + " " + x.bootsOf(1), "0 11");
        asked("two of slot 1", y -> y.bootsOf(1), 2);
        needsText(24, "bootsOf", y -> y.bootsOf(0), y -> y.bootsOf(6), y -> y.bootsOf(-1));
        needsSlot(24, "bootsOf", BootSlots::bootsOf);
    }
}
