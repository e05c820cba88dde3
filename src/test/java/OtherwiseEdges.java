/** The boundary cases of promises 36 to 44: what would be otherwise. */
final class OtherwiseEdges extends Edge {
    private static final String[] SIX_DAMAGED = {"image 0 5 4 0 damaged", "image 1 5 4 0 damaged", "image 2 5 4 0 damaged",
        "image 3 5 4 0 damaged", "image 4 5 4 0 damaged", "image 5 5 4 0 damaged"};

    static void all() {
        ifBooted();
        givenUpIf();
        settlesOn();
        settlesWithout();
        ifInstalled();
        ifInstalledThrows();
        triesFor();
        bestWatch();
        highestFloor();
        keySlot();
    }

    private static void asked(String what, Call call, Object want) {
        asks(what, Edge::busy, call, want);
    }

    /** Slot 0 hangs so many times, with a WATCH; then there is slot 1, which would succeed. */
    private static String[] hanging(int tries) {
        return new String[] {"image 0 5 99 0", "mark 0 9 " + tries, "image 1 6 1 0"};
    }

    private static void ifBooted() {
        promise(36, "Returns the slot that would run if the machine booted now; NONE for rescue.");
        due("off", of(6, "9 9 1 0", "image 5 5 4 0").ifBooted(), 5);
        due("the last of the TRIES was taken", on(1, "9 9 1 0", "image 0 5 4 0").ifBooted(), -1);
        due("one of the TRIES is left", on(1, "9 9 1 0", "image 0 5 4 0", "mark 0 1 2").ifBooted(), 0);
        due("all are damaged", of(6, "9 9 1 0", SIX_DAMAGED).ifBooted(), -1);
        due("empty", of(1, "9 9 1 0").ifBooted(), -1);
        asked("slot 2 is damaged, slot 0 runs", BootSlots::ifBooted, 0);
        needsText(36, "ifBooted", BootSlots::ifBooted);
    }

    private static void givenUpIf() {
        promise(37, "Returns the slots that would be given up if the machine booted now, as a bit set.");
        due("all six", of(6, "9 9 1 0", SIX_DAMAGED).givenUpIf(), 63);
        due("the last one", of(6, "9 9 1 0", "image 5 5 4 0 damaged", "image 0 4 4 0").givenUpIf(), 32);
        due("none: one runs before", of(2, "9 9 1 0", "image 0 5 4 0", "image 1 5 4 0 damaged").givenUpIf(), 0);
        due("none: it cannot be booted", of(1, "9 9 1 0", "image 0 5 4 0 damaged", "mark 0 1 0").givenUpIf(), 0);
        due("a GOOD one", of(1, "9 9 1 0", "image 0 5 4 0 damaged", "mark 0 1 0 good").givenUpIf(), 1);
        due("empty", of(6, "9 9 1 0").givenUpIf(), 0);
        asked("slot 2", BootSlots::givenUpIf, 4);
        needsText(37, "givenUpIf", BootSlots::givenUpIf);
    }

    private static void settlesOn() {
        promise(38, "Returns the slot that would run behind 300 ticks if the machine booted now; NONE if none did.");
        due("slot 0 hangs until 300", of(2, "50 9 1 0", hanging(6)).settlesOn(), 1);
        due("slot 0 hangs until 301", of(2, "43 9 1 0", hanging(7)).settlesOn(), 0);
        due("rescue at 300", of(1, "50 9 1 0", "image 0 5 99 0", "mark 0 9 6").settlesOn(), -1);
        due("rescue at 301", of(1, "43 9 1 0", "image 0 5 99 0", "mark 0 9 7").settlesOn(), 0);
        due("empty", of(1, "9 9 1 0").settlesOn(), -1);
        due("the last slot", of(6, "9 9 1 0", "image 5 5 4 0").settlesOn(), 5);
        BootSlots x = on(2, "50 9 1 0", hanging(7));
        due("from now on: TRIES are one less", x.settlesOn(), 1);
        x.begin(1, 9, 1, 0, 99);
        due("an install that is on goes on", x.settlesOn(), 1);
        asked("slot 0", BootSlots::settlesOn, 0);
        needsText(38, "settlesOn", BootSlots::settlesOn);
    }

    private static void settlesWithout() {
        promise(39, "Returns the same, if a slot was empty (and no install was on).");
        due("without slot 0", of(2, "43 9 1 0", hanging(7)).settlesWithout(0), 1);
        due("without slot 1, at 300", of(2, "50 9 1 0", hanging(6)).settlesWithout(1), -1);
        due("without slot 1, at 301", of(2, "43 9 1 0", hanging(7)).settlesWithout(1), 0);
        due("without an empty one", of(3, "50 9 1 0", hanging(6)).settlesWithout(2), 1);
        BootSlots runs = on(2, "50 9 1 0", "image 0 5 4 0", "image 1 6 4 0");
        due("without the one that runs", runs.count(7) + " " + runs.settlesWithout(1), "1 0");
        BootSlots alone = on(2, "9 9 1 0", "image 0 5 4 0", "mark 0 9 0 good");
        alone.begin(1, 9, 1, 0, 1);
        due("no install was on", alone.settlesWithout(0) + " " + alone.settlesWithout(1), "-1 0");
        asked("without slot 0: slot 2 is given up", x -> x.settlesWithout(0), -1);
        needsText(39, "settlesWithout", y -> y.settlesWithout(0), y -> y.settlesWithout(6), y -> y.settlesWithout(-1));
        needsSlot(39, "settlesWithout", BootSlots::settlesWithout);
    }

    private static void ifInstalled() {
        promise(40, "Returns the slot that would run behind 300 ticks if an image with CRASH 0, neither unsigned nor damaged,"
                + " came into a slot as at the end of an install (section 3, with 3 TRIES; of the slot that runs, too; an"
                + " install that is on is lost), and the machine booted then; NONE if none did.");
        String[] other = {"image 0 50 4 0", "mark 0 1 0 good"};
        due("VERSION is FLOOR", of(2, "9 9 1 50", other).ifInstalled(1, 50, 9), 1);
        due("VERSION is 1 less", of(2, "9 9 1 50", other).ifInstalled(1, 49, 9), 0);
        due("START is WATCH", of(2, "9 9 1 50", other).ifInstalled(1, 99, 9), 1);
        due("START is 1 more", of(2, "9 9 1 50", other).ifInstalled(1, 99, 10), 0);
        due("START 99", of(2, "99 9 1 50", other).ifInstalled(1, 99, 99), 1);
        due("3 TRIES with WATCH 98 end at 294", of(2, "98 9 1 50", other).ifInstalled(1, 99, 99), 0);
        due("none", of(1, "98 9 1 50").ifInstalled(0, 99, 99), -1);
        due("less than FLOOR", of(1, "98 9 1 50").ifInstalled(0, 49, 1), -1);
        due("alone", of(1, "1 9 1 99").ifInstalled(0, 99, 1), 0);
        due("in place of a damaged one", of(2, "9 9 1 0", "image 0 5 4 0 unsigned damaged").ifInstalled(0, 0, 1), 0);
        due("in place of the slot that runs", on(1, "9 9 1 0", "image 0 5 4 0").ifInstalled(0, 5, 10), -1);
        due("which may run", on(1, "9 9 1 0", "image 0 5 4 0").ifInstalled(0, 5, 9), 0);
        due("from rescue, one boot: 3 TRIES end at 294, slot 0 hangs at 392", rescued().ifInstalled(1, 5, 99), 0);
        BootSlots x = on(3, "9 9 1 0", "image 0 5 4 0", "mark 0 15 0 good");
        x.begin(1, 9, 1, 0, 1);
        due("the install that is on is lost", x.ifInstalled(0, 5, 10), -1);
        due("its slot is taken", x.ifInstalled(1, 5, 9), 1);
        due("ahead of PRIORITY 15", x.ifInstalled(2, 0, 9), 2);
        asked("in place of slot 1", y -> y.ifInstalled(1, 9, 10), 1);
        asked("in place of slot 1, it hangs", y -> y.ifInstalled(1, 9, 11), 0);
    }

    private static BootSlots rescued() {
        BootSlots x = on(2, "98 9 1 0", "image 0 5 99 0", "mark 0 0 1");
        x.mark(0, 1, 1);
        return x;
    }

    private static void ifInstalledThrows() {
        needsText(40, "ifInstalled", x -> x.ifInstalled(0, 0, 1), x -> x.ifInstalled(6, 100, 0),
                x -> x.ifInstalled(-1, -1, 100));
        needsSlot(40, "ifInstalled", (x, s) -> x.ifInstalled(s, 5, 4));
        noSlot("ifInstalled, VERSION 100", (x, s) -> x.ifInstalled(s, 100, 4));
        noSlot("ifInstalled, START 0", (x, s) -> x.ifInstalled(s, 5, 0));
        promise(40, "- `version`: VERSION, 0 to 99");
        takes("VERSION 0", Edge::busy, x -> x.ifInstalled(0, 0, 1));
        takes("VERSION 99", Edge::busy, x -> x.ifInstalled(0, 99, 1));
        promise(40, "- `start`: START, 1 to 99");
        takes("START 1", Edge::busy, x -> x.ifInstalled(0, 0, 1));
        takes("START 99", Edge::busy, x -> x.ifInstalled(0, 0, 99));
        promise(40, "Throws `IllegalArgumentException` if version or start is out of range");
        wrongNumbers("ifInstalled, VERSION", Edge::busy, (x, v) -> x.ifInstalled(0, v, 1), -1, 100, LEAST, GREATEST);
        wrongNumbers("ifInstalled, START", Edge::busy, (x, s) -> x.ifInstalled(0, 0, s), -1, 0, 100, LEAST, GREATEST);
    }

    private static void triesFor() {
        promise(41, "Returns the least TRIES, 0 to 7, with which a slot would be GOOD within 300 ticks if the machine booted"
                + " now; NONE if there are none, and for an empty slot.");
        due("GOOD", of(1, "9 9 1 0", "image 0 5 4 0", "mark 0 0 7 good").triesFor(0), 0);
        due("GOOD at first, and lost then", of(1, "9 1 0 0", "image 0 5 9 1", "mark 0 1 7 good").triesFor(0), 0);
        due("it has none now", of(1, "9 9 1 0", "image 0 5 9 0", "mark 0 1 0").triesFor(0), 1);
        due("it has 7 now", of(1, "9 9 1 0", "image 0 5 9 0", "mark 0 1 7").triesFor(0), 1);
        due("START is 1 more than WATCH", of(1, "9 9 1 0", "image 0 5 10 0", "mark 0 1 7").triesFor(0), -1);
        due("PRIORITY 0", of(1, "9 9 1 0", "image 0 5 9 0", "mark 0 0 7").triesFor(0), -1);
        due("given up", of(1, "9 9 1 0", "image 0 5 9 0 damaged", "mark 0 1 0 good").triesFor(0), -1);
        due("empty", of(1, "9 9 1 0").triesFor(0), -1);
        String[] at300 = {"image 0 5 99 0", "mark 0 9 5", "image 1 5 50 0"};
        due("GOOD at 300", of(2, "50 9 1 0", at300).triesFor(1), 1);
        String[] at301 = {"image 0 5 99 0", "mark 0 9 6", "image 1 5 43 0"};
        due("GOOD at 301", of(2, "43 9 1 0", at301).triesFor(1), -1);
        due("behind one that succeeds", of(2, "9 9 1 0", "image 0 5 9 0", "mark 0 9 1", "image 1 5 9 0").triesFor(1), -1);
        asked("slot 1 crashes before START", x -> x.triesFor(1), -1);
        asked("a slot with an install", x -> x.triesFor(3), -1);
        needsText(41, "triesFor", x -> x.triesFor(0), x -> x.triesFor(6), x -> x.triesFor(-1));
        needsSlot(41, "triesFor", BootSlots::triesFor);
    }

    private static void bestWatch() {
        promise(42, "Returns the least WATCH, 1 to 99, with which a slot would be GOOD within 300 ticks if the machine booted"
                + " now; NONE if there is none, and for an empty slot.");
        due("GOOD", of(1, "99 9 1 0", "image 0 5 99 0", "mark 0 0 0 good").bestWatch(0), 1);
        due("START 1", of(1, "99 9 1 0", "image 0 5 1 0").bestWatch(0), 1);
        due("START 2", of(1, "1 9 1 0", "image 0 5 2 0").bestWatch(0), 2);
        due("START 99", of(1, "1 9 1 0", "image 0 5 99 0").bestWatch(0), 99);
        due("CRASH is START", of(1, "99 9 1 0", "image 0 5 9 9", "mark 0 1 7").bestWatch(0), -1);
        due("CRASH is 1 more", of(1, "99 9 1 0", "image 0 5 9 10", "mark 0 1 7").bestWatch(0), 9);
        due("no TRIES", of(1, "99 9 1 0", "image 0 5 9 0", "mark 0 1 0").bestWatch(0), -1);
        due("empty", of(1, "99 9 1 0").bestWatch(0), -1);
        due("given up", of(1, "99 9 1 0", "image 0 5 9 0 damaged", "mark 0 1 0 good").bestWatch(0), -1);
        // slot 0 hangs five or six times behind WATCH ticks, then slot 1 needs START: 300, 306 and 301 ticks
        due("GOOD at 300", of(2, "1 9 1 0", "image 0 5 99 0", "mark 0 9 5", "image 1 5 50 0").bestWatch(1), 50);
        due("GOOD at 306", of(2, "1 9 1 0", "image 0 5 99 0", "mark 0 9 5", "image 1 5 51 0").bestWatch(1), -1);
        due("GOOD at 301", of(2, "1 9 1 0", "image 0 5 99 0", "mark 0 9 6", "image 1 5 43 0").bestWatch(1), -1);
        asked("a slot with an install", x -> x.bestWatch(3), -1);
        asked("slot 0 is GOOD", x -> x.bestWatch(0), 1);
        needsText(42, "bestWatch", x -> x.bestWatch(0), x -> x.bestWatch(6), x -> x.bestWatch(-1));
        needsSlot(42, "bestWatch", BootSlots::bestWatch);
    }

    private static void highestFloor() {
        promise(43, "Returns the greatest FLOOR, 0 to 99 (perhaps less than it is), with which some slot could be booted now;"
                + " NONE if there is none.");
        due("99", of(2, "9 9 1 0", "image 0 99 4 0", "image 1 98 4 0").highestFloor(), 99);
        due("0", of(1, "9 9 1 0", "image 0 0 4 0").highestFloor(), 0);
        due("less than it is", of(1, "9 9 1 99", "image 0 0 4 0").highestFloor(), 0);
        due("as it is", of(1, "9 9 1 50", "image 0 50 4 0").highestFloor(), 50);
        due("unsigned", of(1, "9 9 1 0", "image 0 5 4 0 unsigned").highestFloor(), -1);
        due("PRIORITY 0", of(1, "9 9 1 0", "image 0 5 4 0", "mark 0 0 7 good").highestFloor(), -1);
        due("TRIES 0", of(1, "9 9 1 0", "image 0 5 4 0", "mark 0 15 0").highestFloor(), -1);
        due("TRIES 0, GOOD, damaged", of(1, "9 9 1 0", "image 0 5 4 0 damaged", "mark 0 1 0 good").highestFloor(), 5);
        due("empty", of(6, "9 9 1 0").highestFloor(), -1);
        asked("slot 1 has no TRIES", BootSlots::highestFloor, 5);
        needsText(43, "highestFloor", BootSlots::highestFloor);
    }

    private static void keySlot() {
        promise(44, "Returns the slot that can be booted without which (if it was empty; an install that is on goes on) the"
                + " machine, if it booted now, would be in rescue soonest, within 300 ticks, of several the smallest number;"
                + " NONE if it would be so without none of them.");
        due("at once", of(1, "9 9 1 0", "image 0 5 4 0").keySlot(), 0);
        due("at 300", of(2, "50 9 1 0", hanging(6)).keySlot(), 1);
        due("at 301", of(2, "43 9 1 0", hanging(7)).keySlot(), -1);
        String[] equal = {"image 0 5 9 1", "image 1 5 9 1", "image 2 5 9 1"};
        due("of three", of(3, "9 9 1 0", equal).keySlot(), 0);
        due("sooner", of(3, "9 9 1 0", "image 0 5 9 1", "image 1 5 9 2", "image 2 5 9 3").keySlot(), 2);
        due("none can be booted", of(2, "9 9 1 0", "image 0 5 9 1", "mark 0 0 1").keySlot(), -1);
        due("empty", of(6, "9 9 1 0").keySlot(), -1);
        due("two that hold", of(2, "9 9 1 0", "image 0 5 4 0", "image 1 5 4 0").keySlot(), -1);
        due("a damaged one is none", of(2, "9 9 1 0", "image 0 5 4 0 damaged", "mark 0 9 1", "image 1 5 4 0").keySlot(), 1);
        BootSlots x = on(3, "9 9 1 0", "image 0 5 9 5", "mark 0 9 3", "image 1 5 4 0");
        x.begin(2, 5, 4, 0, 9);
        due("an install that is on goes on, and ends in time", x.keySlot(), -1);
        x.undo();
        x.begin(2, 5, 4, 0, 11);
        due("it ends too late", x.keySlot(), 1);
        asked("slot 0", BootSlots::keySlot, 0);
        needsText(44, "keySlot", BootSlots::keySlot);
    }
}
