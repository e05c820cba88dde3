/** The boundary cases that section 3 names: what happens in a tick, and in which order. */
final class TickEdges extends Edge {
    static void all() {
        time();
        firstOne();
        crash();
        faults();
        faultsOfOthers();
        bootBehindCrash();
        start();
        noFaults();
        floor();
        hang();
        installTicks();
        priorityFifteen();
        priorityOfTheSlot();
        bootFromRescue();
    }

    private static void time() {
        section(3, "In a tick the time becomes 1 greater.");
        BootSlots off = of(1, "9 9 1 0");
        off.tick(1);
        due("off", off.count(1) + " " + off.count(8), "1 0");
        BootSlots rescue = on(1, "9 9 1 0");
        rescue.tick(1);
        due("rescue", rescue.count(1) + " " + rescue.count(8), "1 0");
        BootSlots runs = on(1, "9 9 1 0", "image 0 5 4 0");
        runs.tick(1);
        due("it runs", runs.count(1) + " " + runs.count(8), "1 1");
        runs.tick(300);
        due("300 more", runs.count(1) + " " + runs.count(8), "301 301");
    }

    /** Crashes, hangs, successes. */
    private static String happened(BootSlots x) {
        return x.count(15) + " " + x.count(16) + " " + x.count(17);
    }

    private static String happens(String numbers, String image, int ticks) {
        BootSlots x = on(1, numbers, "image 0 5 " + image);
        x.tick(ticks);
        return happened(x);
    }

    private static void firstOne() {
        section(3, "If the machine runs, AGE becomes 1 greater, and the first one of these that applies happens:");
        due("CRASH, START and WATCH are one", happens("4 9 1 0", "4 4", 4), "1 0 0");
        due("CRASH and START", happens("9 9 1 0", "4 4", 4), "1 0 0");
        due("CRASH and WATCH", happens("4 9 1 0", "9 4", 4), "1 0 0");
        due("START and WATCH", happens("4 9 1 0", "4 0", 4), "0 0 1");
        due("CRASH is 1 more than START", happens("9 9 1 0", "4 5", 5), "1 0 1");
        due("CRASH is 1 less than START", happens("9 9 1 0", "4 3", 9), "1 0 0");
        due("WATCH is 1 less than START", happens("3 9 1 0", "4 0", 9), "0 1 0");
        due("WATCH is 1 less than CRASH", happens("3 9 1 0", "9 4", 9), "0 1 0");
        due("WATCH is 1 more than CRASH", happens("5 9 1 0", "9 4", 9), "1 0 0");
    }

    private static void crash() {
        section(3, "AGE is CRASH: the image crashes.");
        due("CRASH 1", happens("9 9 1 0", "4 1", 1), "1 0 0");
        due("before CRASH 99", happens("99 9 1 0", "99 99", 98), "0 0 0");
        due("CRASH 99", happens("99 9 1 0", "99 99", 99), "1 0 0");
        due("CRASH 0 never comes", happens("9 9 1 0", "4 0", 300), "0 0 1");
        BootSlots often = on(1, "9 9 1 0", "image 0 5 9 1", "mark 0 1 7");
        often.tick(6);
        due("at each tick, six times", often.count(15) + " " + often.count(6), "6 1");
        often.tick(2);
        due("a seventh and last time", often.count(15) + " " + often.count(6), "7 2");
    }

    /** FAULTS, GOOD and TRIES of slot 0. */
    private static String slot(BootSlots x) {
        return x.slot(0, 4) + " " + x.slot(0, 3) + " " + x.slot(0, 2);
    }

    private static void faults() {
        section(3, "FAULTS of the slot becomes 1 greater; if it is GOOD and FAULTS is LIMIT or more then, it is not"
                + " GOOD any more, its TRIES become RETRY, and its FAULTS 0.");
        BootSlots least = on(1, "9 1 0 0", "image 0 5 9 2", "mark 0 1 7 good");
        least.tick(1);
        due("before the crash", slot(least), "0 1 7");
        least.tick(1);
        due("LIMIT 1, RETRY 0", slot(least) + " " + least.count(6), "0 0 0 2");
        BootSlots most = on(1, "9 9 7 0", "image 0 5 9 2", "mark 0 1 0 good");
        most.tick(16);
        due("eight of LIMIT 9", slot(most), "8 1 0");
        most.tick(1);
        due("before the ninth", slot(most), "8 1 0");
        most.tick(1);
        due("LIMIT 9, RETRY 7, of which the boot takes one", slot(most), "0 0 6");
        BootSlots other = on(2, "9 1 7 0", "image 0 5 9 2", "mark 0 1 0 good", "image 1 6 1 0", "mark 1 0 0 good");
        other.mark(1, 15, 0);
        other.tick(2);
        due("RETRY 7, another one is booted", slot(other) + " " + other.count(7), "0 0 7 1");
        BootSlots more = on(1, "9 9 1 0", "image 0 5 9 2", "mark 0 1 0 good");
        more.tick(6);
        more.setNumber(3, 2);
        due("FAULTS are more than LIMIT, but there was no crash", slot(more), "3 1 0");
        more.tick(2);
        due("more than LIMIT", slot(more), "0 0 0");
        BootSlots just = on(1, "9 9 1 0", "image 0 5 9 2", "mark 0 1 0 good");
        just.tick(6);
        just.setNumber(3, 5);
        just.tick(2);
        due("1 less than LIMIT", slot(just), "4 1 0");
        just.tick(2);
        due("LIMIT", slot(just), "0 0 0");
    }

    private static void faultsOfOthers() {
        BootSlots x = on(1, "9 1 7 0", "image 0 5 9 2", "mark 0 1 3");
        x.tick(4);
        due("not GOOD: LIMIT and RETRY do not matter", slot(x), "2 0 0");
        BootSlots two = on(2, "9 2 1 0", "image 0 5 9 2", "mark 0 2 0 good", "image 1 5 9 2", "mark 1 1 0 good");
        two.tick(2);
        due("FAULTS of the slot alone", two.slot(0, 4) + " " + two.slot(1, 4), "1 0");
    }

    private static void bootBehindCrash() {
        section(3, "Then the machine boots (2).");
        BootSlots x = on(1, "9 9 1 0", "image 0 5 9 2", "mark 0 1 2");
        due("in the tick of the crash", x.tick(2) + " " + Check.boots(x) + " " + x.count(8), "1 0p0 2c0 0");
        due("to rescue", x.tick(2) + " " + Check.boots(x) + " " + x.count(8), "1 0p0 2c0 4cr 0");
    }

    private static void start() {
        section(3, "AGE is START: if the slot is not GOOD it is GOOD from now on, and its TRIES are 0 (it has"
                + " succeeded).");
        due("START 1", happens("9 9 1 0", "1 0", 1), "0 0 1");
        due("before START 99", happens("99 9 1 0", "99 0", 98), "0 0 0");
        due("START 99", happens("99 9 1 0", "99 0", 99), "0 0 1");
        BootSlots x = on(1, "9 9 1 0", "image 0 5 4 0", "mark 0 1 7");
        x.tick(3);
        due("before", slot(x), "0 0 6");
        x.tick(1);
        due("at START", slot(x) + " " + x.count(17) + " " + x.slot(0, 8), "0 1 0 1 1");
        x.mark(0, 1, 5);
        x.reboot();
        x.tick(4);
        due("a GOOD one keeps its TRIES, and has not succeeded anew", slot(x) + " " + x.count(17), "0 1 5 1");
    }

    private static void noFaults() {
        section(3, "Its FAULTS become 0.");
        BootSlots x = on(1, "9 2 1 0", "image 0 5 2 3", "mark 0 1 0 good");
        x.tick(3);
        due("a crash behind START", slot(x), "1 1 0");
        x.tick(1);
        due("before START", slot(x), "1 1 0");
        x.tick(1);
        due("START", slot(x), "0 1 0");
        x.tick(295);
        due("LIMIT is never reached", x.count(15) + " " + x.slot(0, 3), "100 1");
        BootSlots bad = on(1, "9 2 1 0", "image 0 5 9 3", "mark 0 1 7");
        bad.tick(6);
        due("two", slot(bad), "2 0 4");
        due("of one that is not GOOD they stay until START", bad.slot(0, 4), 2);
        BootSlots first = on(2, "9 2 1 0", "image 0 5 4 4", "mark 0 2 2", "image 1 5 4 0");
        first.tick(4);
        due("CRASH is START: no success", slot(first), "1 0 0");
    }

    private static int floorBehind(String floor, String... lines) {
        BootSlots x = on(2, "9 9 1 " + floor, lines);
        x.tick(4);
        return x.count(5);
    }

    private static void floor() {
        section(3, "If the least VERSION of all GOOD slots is greater than FLOOR, FLOOR becomes that.");
        due("1 greater", floorBehind("49", "image 0 50 4 0"), 50);
        due("the same", floorBehind("50", "image 0 50 4 0"), 50);
        due("from 0 to 99", floorBehind("0", "image 0 99 4 0"), 99);
        due("VERSION 0", floorBehind("0", "image 0 0 4 0"), 0);
        due("the other one is the least", floorBehind("7", "image 0 50 4 0", "mark 0 9 1", "image 1 8 4 0",
                "mark 1 1 0 good"), 8);
        due("the other one is FLOOR", floorBehind("8", "image 0 50 4 0", "mark 0 9 1", "image 1 8 4 0",
                "mark 1 1 0 good"), 8);
        due("the other one is less than FLOOR", floorBehind("9", "image 0 50 4 0", "mark 0 9 1", "image 1 8 4 0",
                "mark 1 1 0 good"), 9);
        due("the other one is not GOOD", floorBehind("7", "image 0 50 4 0", "mark 0 9 1", "image 1 8 4 0"), 50);
        due("the other one is GOOD without PRIORITY", floorBehind("7", "image 0 50 4 0", "mark 0 9 1",
                "image 1 8 4 0 unsigned", "mark 1 0 0 good"), 8);
        due("by one that was GOOD", floorBehind("7", "image 0 50 4 0", "mark 0 9 0 good"), 50);
        BootSlots x = on(1, "9 9 1 7", "image 0 50 4 0", "mark 0 9 0 good");
        x.tick(3);
        due("not before START", x.count(5), 7);
        x.undo();
        x.tick(300);
        due("once", x.count(5), 50);
        due("CRASH comes first", floorBehind("7", "image 0 50 4 4", "mark 0 9 0 good"), 7);
    }

    private static void hang() {
        section(3, "AGE is WATCH, and the slot is not GOOD: it hangs.");
        due("WATCH 1", happens("1 9 1 0", "2 0", 1), "0 1 0");
        due("before WATCH 98", happens("98 9 1 0", "99 0", 97), "0 0 0");
        due("WATCH 98", happens("98 9 1 0", "99 0", 98), "0 1 0");
        due("WATCH 99 is no less than START", happens("99 9 1 0", "99 0", 99), "0 0 1");
        BootSlots good = on(1, "3 9 1 0", "image 0 5 9 0", "mark 0 1 0 good");
        good.tick(300);
        due("a GOOD one does not", happened(good), "0 0 0");
        BootSlots past = on(1, "9 9 1 0", "image 0 5 99 0");
        past.tick(5);
        past.setNumber(2, 5);
        past.tick(93);
        due("AGE was WATCH already", happened(past), "0 0 0");
        past.tick(1);
        due("it succeeds then", happened(past), "0 0 1");
        BootSlots ahead = on(1, "9 9 1 0", "image 0 5 99 0");
        ahead.tick(5);
        ahead.setNumber(2, 6);
        ahead.tick(1);
        due("AGE becomes WATCH", happened(ahead), "0 1 0");
        section(3, "The machine boots (3).");
        BootSlots boots = on(1, "3 9 1 0", "image 0 5 9 0", "mark 0 1 2");
        due("in the tick of the hang", boots.tick(3) + " " + Check.boots(boots) + " " + boots.count(8), "1 0p0 3h0 0");
        due("FAULTS stay", boots.slot(0, 4), 0);
        due("to rescue", boots.tick(3) + " " + Check.boots(boots), "1 0p0 3h0 6hr");
    }

    private static void installTicks() {
        section(3, "Then, if the machine is not off and there is an install, it has one tick less to go; if none is"
                + " left, it ends: the image comes into its slot.");
        BootSlots x = on(2, "9 9 1 0", "image 0 5 4 0");
        x.begin(1, 7, 6, 5, 2);
        x.spoil(1, 2);
        x.tick(1);
        due("one is left", x.install(1) + " " + x.slot(1, 0) + " " + x.count(19), "1 0 0");
        x.tick(1);
        due("none is left", x.install(1) + " " + x.slot(1, 0) + " " + x.count(19), "-1 1 1");
        due("its image", x.image(1, 0) + " " + x.image(1, 1) + " " + x.image(1, 2) + " " + x.image(1, 3) + " "
                + x.image(1, 4), "7 6 5 1 1");
        BootSlots crash = on(2, "9 9 1 0", "image 0 5 9 2", "mark 0 1 2");
        crash.begin(1, 7, 6, 5, 2);
        crash.tick(2);
        due("the boot of the same tick comes first", Check.boots(crash) + " " + Check.slots(crash),
                "0p0 2c0 5:1/0* 7:2/3");
        BootSlots rescue = on(2, "9 9 1 0", "image 0 5 9 2", "mark 0 1 0");
        rescue.begin(1, 7, 6, 5, 2);
        due("in rescue, too", rescue.tick(2) + " " + Check.boots(rescue), "1 0pr 2i1");
    }

    /** PRIORITY of all slots, behind an install into the last one. */
    private static String priorities(int slots, String... lines) {
        BootSlots x = on(slots, "9 9 1 0", lines);
        x.begin(slots - 1, 7, 6, 0, 1);
        x.tick(1);
        StringBuilder told = new StringBuilder();
        for (int s = 0; s < slots; s++) {
            told.append(x.slot(s, 1)).append(' ');
        }
        return told.toString();
    }

    private static void priorityFifteen() {
        section(3, "If the greatest PRIORITY of the other slots is 15, each PRIORITY of these above 1 becomes 1"
                + " less.");
        due("15", priorities(6, "image 0 5 4 0", "mark 0 15 1", "image 1 5 4 0", "mark 1 2 1", "image 2 5 4 0",
                "mark 2 1 1", "image 3 5 4 0", "mark 3 0 1"), "14 1 1 0 0 15 ");
        due("several 15", priorities(3, "image 0 5 4 0", "mark 0 15 1", "image 1 5 4 0", "mark 1 15 1"), "14 14 15 ");
        due("14", priorities(3, "image 0 5 4 0", "mark 0 14 1", "image 1 5 4 0", "mark 1 2 1"), "14 2 15 ");
        due("its own 15 does not count", priorities(3, "image 0 5 4 0", "mark 0 3 0 good", "image 1 5 4 0",
                "mark 1 2 1", "image 2 5 4 0", "mark 2 15 0"), "3 2 4 ");
    }

    private static void priorityOfTheSlot() {
        section(3, "PRIORITY of the slot becomes 1 more than the greatest of the others then, its TRIES those of the"
                + " install, it is not GOOD, its FAULTS are 0.");
        due("of one slot: none of others", priorities(1), "1 ");
        due("the others are empty", priorities(3), "0 0 1 ");
        due("the other one has 0", priorities(2, "image 0 5 4 0", "mark 0 0 1"), "0 1 ");
        due("the other one has 1", priorities(2, "image 0 5 4 0"), "1 2 ");
        BootSlots x = on(2, "9 9 1 0", "image 0 5 9 2", "mark 0 9 6 good", "image 1 5 4 0", "mark 1 1 0 good");
        x.tick(2);
        x.mark(1, 10, 0);
        x.reboot();
        due("before", slot(x), "1 1 6");
        x.begin(0, 7, 6, 5, 1);
        x.tick(1);
        due("behind", slot(x), "0 0 3");
    }

    private static void bootFromRescue() {
        section(3, "If the machine is in rescue, it boots (4).");
        BootSlots x = on(1, "9 9 1 0");
        x.begin(0, 7, 6, 5, 1);
        due("in that tick", x.tick(1) + " " + Check.boots(x) + " " + x.count(8), "1 0pr 1i0 0");
        due("it took a TRY", x.slot(0, 2), 2);
        due("that tick began in rescue", x.count(18), 1);
        BootSlots shut = on(1, "9 9 1 8");
        shut.begin(0, 7, 6, 5, 1);
        due("back to rescue", shut.tick(1) + " " + Check.boots(shut), "1 0pr 1ir");
        BootSlots runs = on(2, "9 9 1 0", "image 0 5 4 0");
        runs.begin(1, 7, 6, 5, 1);
        due("not if it runs", runs.tick(1) + " " + Check.boots(runs), "0 0p0");
        BootSlots just = on(2, "2 9 1 0", "image 0 5 4 0");
        just.begin(1, 7, 6, 5, 2);
        due("in rescue since this tick", just.tick(2) + " " + Check.boots(just) + " " + just.count(18),
                "2 0p0 2hr 2i1 0");
    }
}
