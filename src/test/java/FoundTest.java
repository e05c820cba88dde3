/** Promises 12 to 24: what is found. */
public final class FoundTest {
    /** Slots 0 to 5 cannot be booted by 1 empty, 2 unsigned, 3 FLOOR, 4 PRIORITY, 5 TRIES; 5 can. */
    private static final String WHY = "machine 9 9 1 5;slot;slot;slot;slot;slot;slot;image 1 4 4 0 unsigned;"
            + "mark 1 0 0;image 2 4 4 0;mark 2 0 0;image 3 5 4 0;mark 3 0 0;image 4 5 4 0;mark 4 1 0;"
            + "image 5 5 4 0";
    /** The loader's order is 3, 4, 1, 5, 0, 2. */
    private static final String ORDER = "machine 9 9 1 0;slot;slot;slot;slot;slot;slot;image 0 8 4 0;"
            + "mark 0 5 1;image 1 7 4 0;mark 1 5 2 good;image 2 8 4 0;mark 2 5 1;image 3 1 4 0;mark 3 6 1;"
            + "image 4 9 4 0;mark 4 5 0 good;image 5 9 4 0;mark 5 5 3";

    public static void main(String[] args) {
        whyNot();
        choice();
        place();
        newest();
        spare();
        fallback();
        weakest();
        twins();
        sinking();
        floorWith();
        mayHold();
        mostBoots();
        bootsOf();
        wrongCalls();
        Check.end();
    }

    private static void whyNot() {
        Check.promise(12, "whyNot");
        BootSlots x = Check.of(WHY);
        for (int s = 0; s < 6; s++) {
            Check.due("whyNot(" + s + ")", x.whyNot(s), (s + 1) % 6);
            Check.due("slot(" + s + ", 5)", x.slot(s, 5), s == 5 ? 1 : 0);
        }
        x.mark(4, 1, 1);
        Check.due("with TRIES", x.whyNot(4), 0);
        x.mark(3, 1, 0);
        Check.due("with PRIORITY alone", x.whyNot(3), 5);
        x.mark(3, 0, 1);
        Check.due("with TRIES alone", x.whyNot(3), 4);
        x.spoil(3, 0);
        Check.due("unsigned", x.whyNot(3), 2);
        x.spoil(5, 1);
        Check.due("damaged is not known ahead", x.whyNot(5), 0);
        Check.due("GOOD without TRIES", Check.of(ORDER).whyNot(4), 0);
        Check.due("FLOOR is VERSION", Check.of(WHY).whyNot(5), 0);
    }

    private static void choice() {
        Check.promise(13, "choice");
        BootSlots x = Check.of(ORDER);
        int[] order = {3, 4, 1, 5, 0, 2};
        for (int i = 0; i < 6; i++) {
            Check.due("choice " + i, x.choice(), order[i]);
            x.spoil(order[i], 0);
        }
        Check.due("no choice", x.choice(), -1);
        Check.due("a damaged one", Check.of("machine 9 9 1 0;slot;image 0 1 1 1 damaged").choice(), 0);
        Check.due("none", Check.of("machine 9 9 1 0;slot").choice(), -1);
    }

    private static void place() {
        Check.promise(14, "place");
        BootSlots x = Check.of(ORDER);
        int[] places = {4, 2, 5, 0, 1, 3};
        for (int s = 0; s < 6; s++) {
            Check.due("place(" + s + ")", x.place(s), places[s]);
        }
        x.spoil(3, 0);
        x.mark(5, 5, 0);
        int[] left = {2, 1, 3, -1, 0, -1};
        for (int s = 0; s < 6; s++) {
            Check.due("place(" + s + ") of four", x.place(s), left[s]);
        }
    }

    private static void newest() {
        Check.promise(15, "newest");
        Check.due("of two the smallest number", Check.of(ORDER).newest(), 4);
        Check.due("also unsigned", Check.of("machine 1 1 1 9;slot;slot;slot;image 0 1 1 0;"
                + "image 2 2 1 0 unsigned damaged;mark 2 0 0").newest(), 2);
        Check.due("slot 0", Check.of("machine 1 1 1 0;slot;slot;image 0 3 1 0;image 1 2 1 0").newest(), 0);
        Check.due("VERSION 0", Check.of("machine 1 1 1 0;slot;slot;image 1 0 1 0").newest(), 1);
        Check.due("none", Check.of("machine 1 1 1 0;slot;slot").newest(), -1);
    }

    private static void spare() {
        Check.promise(16, "spare");
        BootSlots x = Check.of(WHY);
        Check.due("an empty one", x.spare(), 0);
        x.power();
        x.begin(0, 9, 9, 0, 9);
        Check.due("not that of an install, but one that cannot be booted", x.spare(), 1);
        x.tick(9);
        Check.due("behind the install", x.spare(), 1);
        BootSlots y = Check.of(ORDER);
        Check.due("the last one of the order", y.spare(), 2);
        y.mark(3, 1, 1);
        Check.due("the last one is first no more", y.spare(), 3);
        y.mark(3, 0, 1);
        Check.due("one that cannot be booted", y.spare(), 3);
        y.mark(5, 0, 1);
        Check.due("of two the smallest number", y.spare(), 3);
        spareOfFew();
    }

    private static void spareOfFew() {
        BootSlots one = Check.of("machine 9 9 1 0;slot;image 0 5 4 0");
        Check.due("one slot, off", one.spare(), 0);
        one.power();
        Check.due("the slot that runs", one.spare(), -1);
        BootSlots two = Check.of("machine 9 9 1 0;slot;slot;image 0 5 4 0;image 1 4 4 0");
        Check.due("off", two.spare(), 1);
        two.power();
        Check.due("the other one", two.spare(), 1);
        two.begin(1, 9, 9, 0, 9);
        Check.due("an install for the other one", two.spare(), -1);
        BootSlots last = Check.of("machine 9 9 1 0;slot;slot;slot;image 0 5 4 0 unsigned;image 1 5 4 0");
        Check.due("an empty one behind the others", last.spare(), 2);
        BootSlots shut = Check.of("machine 9 9 1 0;slot;slot;image 0 5 4 0;image 1 5 4 0 unsigned");
        Check.due("one that cannot be booted behind one that can", shut.spare(), 1);
        BootSlots empty = Check.of("machine 9 9 1 0;slot;slot;slot;image 0 5 4 0");
        Check.due("of two empty ones the smallest number", empty.spare(), 1);
    }

    private static void fallback() {
        Check.promise(17, "fallback");
        BootSlots x = Check.of(ORDER);
        Check.due("off", x.fallback(), -1);
        x.power();
        Check.due("behind slot 3", x.fallback(), 4);
        x.mark(4, 7, 0);
        Check.due("a slot ahead of the one that runs", x.fallback(), 4);
        BootSlots y = Check.of("machine 2 9 1 0;slot;slot;image 0 5 4 0");
        y.power();
        Check.due("none", y.fallback(), -1);
        y.tick(2);
        Check.due("rescue", y.count(6), 2);
        y.mark(0, 1, 1);
        Check.due("the machine does not run", y.fallback(), -1);
    }

    private static void weakest() {
        Check.promise(18, "weakest");
        BootSlots x = Check.of(ORDER);
        Check.due("of several the smallest number", x.weakest(), 0);
        x.mark(2, 5, 7);
        x.mark(0, 5, 7);
        x.mark(3, 5, 7);
        Check.due("not a GOOD one", x.weakest(), 5);
        x.mark(5, 5, 0);
        Check.due("not one that cannot be booted", x.weakest(), 0);
        Check.due("none", Check.of("machine 9 9 1 0;slot;slot;image 0 1 1 1;mark 0 1 1 good").weakest(), -1);
    }

    private static void twins() {
        Check.promise(19, "twins");
        int[] sets = {4, 0, 1, 0, 32, 16};
        for (int s = 0; s < 6; s++) {
            Check.due("twins(" + s + ")", Check.of(ORDER).twins(s), sets[s]);
        }
        BootSlots y = Check.of("machine 9 9 1 0;slot;slot;slot;slot;image 0 0 1 0;image 2 0 1 0;image 3 0 2 9");
        Check.due("an empty slot is no twin", y.twins(0), 12);
        Check.due("an empty slot has no twins", y.twins(1), 0);
        Check.due("of the last one", y.twins(3), 5);
    }

    private static void sinking() {
        Check.promise(20, "sinking");
        BootSlots x = Check.of(ORDER);
        Check.due("none", x.sinking(), 0);
        x.setNumber(5, 8);
        Check.due("FLOOR 8", x.sinking(), 2 + 8);
        x.setNumber(5, 9);
        Check.due("FLOOR 9", x.sinking(), 1 + 2 + 4 + 8);
        Check.due("empty ones are not counted, unsigned ones are", Check.of(WHY).sinking(), 2 + 4);
    }

    private static void floorWith() {
        Check.promise(21, "floorWith");
        BootSlots x = Check.of(ORDER);
        int[] floors = {7, 7, 7, 1, 7, 7};
        for (int s = 0; s < 6; s++) {
            Check.due("floorWith(" + s + ")", x.floorWith(s), floors[s]);
        }
        x.setNumber(5, 6);
        Check.due("not less than it is", x.floorWith(3), 6);
        BootSlots y = Check.of("machine 9 9 1 2;slot;slot;slot;image 0 99 1 0;image 1 50 1 0");
        Check.due("alone", y.floorWith(0), 99);
        Check.due("alone", y.floorWith(1), 50);
        Check.due("an empty slot", y.floorWith(2), 2);
        BootSlots z = Check.of("machine 9 9 1 2;slot;slot;image 0 9 1 0;mark 0 1 1 good");
        Check.due("an empty slot beside a GOOD one", z.floorWith(1), 2);
    }

    private static void mayHold() {
        Check.promise(22, "mayHold");
        BootSlots x = Check.of("machine 9 9 1 0;slot;slot;slot;slot;slot;slot;image 0 1 9 0;image 1 1 9 10 damaged;"
                + "image 2 1 9 9;image 3 1 10 0;image 4 1 10 11;mark 4 0 0 good");
        boolean[] want = {true, true, false, false, true, false};
        for (int s = 0; s < 6; s++) {
            Check.due("mayHold(" + s + ")", x.mayHold(s), want[s]);
        }
        x.setNumber(2, 10);
        Check.due("START is WATCH", x.mayHold(3), true);
        BootSlots y = Check.of("machine 9 9 1 0;slot;image 0 1 5 4;mark 0 1 1 good");
        Check.due("GOOD, CRASH less than START", y.mayHold(0), false);
    }

    private static void mostBoots() {
        Check.promise(23, "mostBoots");
        BootSlots x = Check.of(ORDER);
        Check.due("GOOD ones, too", x.mostBoots(), 8);
        x.mark(5, 0, 3);
        Check.due("but none that cannot be booted", x.mostBoots(), 5);
        Check.due("none", Check.of("machine 9 9 1 0;slot").mostBoots(), 0);
    }

    private static void bootsOf() {
        Check.promise(24, "bootsOf");
        BootSlots x = Check.of("machine 9 9 1 0;slot;slot;image 0 5 4 0;mark 0 9 7;image 1 5 4 0;mark 1 1 0 good");
        Check.due("none", x.bootsOf(0), 0);
        x.power();
        for (int i = 0; i < 6; i++) {
            x.reboot();
        }
        Check.due("seven", x.bootsOf(0), 7);
        Check.due("none of the other one", x.bootsOf(1), 0);
        for (int i = 0; i < 7; i++) {
            x.reboot();
        }
        Check.due("five that are kept", x.bootsOf(0), 5);
        Check.due("seven of the other one", x.bootsOf(1), 7);
        x.spoil(1, 1);
        x.reboot();
        Check.due("four that are kept", x.bootsOf(0), 4);
        Check.due("a slot that was given up did not run", x.bootsOf(1), 7);
    }

    private static void wrongCalls() {
        BootSlots x = Check.of(WHY + ";mark 5 1 1");
        BootSlots none = Check.empty();
        int[] wrong = {-1, 6, Integer.MAX_VALUE, Integer.MIN_VALUE};
        for (int s : wrong) {
            Check.promise(12, "whyNot");
            Check.dueThrow("whyNot(" + s + ")", Check.INDEX, () -> x.whyNot(s));
            Check.dueThrow("whyNot(" + s + ") without a text", Check.STATE, () -> none.whyNot(s));
            Check.promise(14, "place");
            Check.dueThrow("place(" + s + ")", Check.INDEX, () -> x.place(s));
            Check.dueThrow("place(" + s + ") without a text", Check.STATE, () -> none.place(s));
            Check.promise(19, "twins");
            Check.dueThrow("twins(" + s + ")", Check.INDEX, () -> x.twins(s));
            Check.dueThrow("twins(" + s + ") without a text", Check.STATE, () -> none.twins(s));
            Check.promise(21, "floorWith");
            Check.dueThrow("floorWith(" + s + ")", Check.INDEX, () -> x.floorWith(s));
            Check.dueThrow("floorWith(" + s + ") without a text", Check.STATE, () -> none.floorWith(s));
            Check.promise(22, "mayHold");
            Check.dueThrow("mayHold(" + s + ")", Check.INDEX, () -> x.mayHold(s));
            Check.dueThrow("mayHold(" + s + ") without a text", Check.STATE, () -> none.mayHold(s));
            Check.promise(24, "bootsOf");
            Check.dueThrow("bootsOf(" + s + ")", Check.INDEX, () -> x.bootsOf(s));
            Check.dueThrow("bootsOf(" + s + ") without a text", Check.STATE, () -> none.bootsOf(s));
        }
        Check.promise(13, "choice and the others without a slot");
        Check.dueThrow("choice without a text", Check.STATE, none::choice);
        Check.dueThrow("newest without a text", Check.STATE, none::newest);
        Check.dueThrow("spare without a text", Check.STATE, none::spare);
        Check.dueThrow("fallback without a text", Check.STATE, none::fallback);
        Check.dueThrow("weakest without a text", Check.STATE, none::weakest);
        Check.dueThrow("sinking without a text", Check.STATE, none::sinking);
        Check.dueThrow("mostBoots without a text", Check.STATE, none::mostBoots);
        BootSlots two = Check.of("machine 9 9 1 0;slot;slot");
        Check.dueThrow("whyNot(2) of two", Check.INDEX, () -> two.whyNot(2));
    }
}
