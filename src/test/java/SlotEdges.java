/** The boundary cases that sections 1, 2 and 4 name: slots and images, boots, installs. */
final class SlotEdges extends Edge {
    static void all() {
        notForEver();
        numbersOfSlots();
        imageOrEmpty();
        imageBounds();
        slotBounds();
        emptySlots();
        machineBounds();
        canBeBooted();
        states();
        preference();
        tryIsTaken();
        givenUp();
        runsFromNowOn();
        rescue();
        keptBoots();
        causes();
        oneInstall();
        installBegins();
        powerIsCut();
    }

    private static void notForEver() {
        Check.about("Terms, \"A slot that never succeeded is not tried for ever.\"");
        Doc.hold("Terms", "A slot that never succeeded is not tried for ever.");
        BootSlots x = on(1, "9 9 7 0", "image 0 5 9 1", "mark 0 1 7");
        x.tick(6);
        due("a seventh time", x.count(6) + " " + x.slot(0, 6), "1 7");
        x.tick(1);
        due("no eighth time", x.count(6) + " " + x.slot(0, 6), "2 7");
        x.reboot();
        due("nor by hand", x.count(6) + " " + x.slot(0, 6), "2 7");
    }

    private static void numbersOfSlots() {
        section(1, "All numbers are integers if nothing else is said.");
        due("half of three is told by a float alone", on(1, "9 9 1 0").meanBoot(), 0.0);
        section(1, "There are 1 to 6 slots, numbered from 0.");
        due("one slot", of(1, "9 9 1 0").count(0), 1);
        due("six slots", of(6, "9 9 1 0").count(0), 6);
        wrongText(text(0, "9 9 1 0"), 6, 15);
        wrongText(text(7, "9 9 1 0"), 5, 46);
        takes("the only slot is 0", Edge::one, x -> x.slot(0, 0));
        takes("the last one of six is 5", Edge::six, x -> x.slot(5, 0));
        refused("slot 1 of one", Check.INDEX, Edge::one, x -> x.slot(1, 0));
        refused("slot 6 of six", Check.INDEX, Edge::six, x -> x.slot(6, 0));
        refused("slot -1 of six", Check.INDEX, Edge::six, x -> x.slot(-1, 0));
    }

    private static void imageOrEmpty() {
        section(1, "A slot holds an image or is empty.");
        BootSlots x = of(6, "9 9 1 0", "image 0 1 1 1", "image 5 1 1 1");
        int[] want = {1, 0, 0, 0, 0, 1};
        for (int s = 0; s < 6; s++) {
            due("slot " + s, x.slot(s, 0), want[s]);
        }
    }

    private static String image(String numbers) {
        return text(1, "9 9 1 0", "image 0 " + numbers);
    }

    private static void imageBounds() {
        section(1, "An image has a VERSION (0 to 99), START (1 to 99) and CRASH (0 to 99), and it can be unsigned and"
                + " it can be damaged.");
        rightText(image("0 1 0"), image("0 1 0;mark 0 1 1"));
        rightText(image("99 99 99"), image("99 99 99;mark 0 1 1"));
        wrongText(image("100 1 0"), 1, 29);
        wrongText(image("0 0 0"), 2, 31);
        wrongText(image("0 100 0"), 1, 31);
        wrongText(image("0 1 100"), 1, 33);
        String[] words = {"", " unsigned", " damaged", " unsigned damaged"};
        for (int i = 0; i < 4; i++) {
            BootSlots x = Check.of(image("0 1 0" + words[i]));
            due("image" + words[i], x.image(0, 3) + 2 * x.image(0, 4), i);
        }
        Maker maker = Edge::six;
        takes("least numbers in an install", maker, x -> x.begin(0, 0, 1, 0, 1));
        takes("greatest numbers in an install", maker, x -> x.begin(0, 99, 99, 99, 99));
        refused("VERSION -1", Check.ARGUMENT, maker, x -> x.begin(0, -1, 1, 0, 1));
        refused("VERSION 100", Check.ARGUMENT, maker, x -> x.begin(0, 100, 1, 0, 1));
        refused("START 0", Check.ARGUMENT, maker, x -> x.begin(0, 0, 0, 0, 1));
        refused("START 100", Check.ARGUMENT, maker, x -> x.begin(0, 0, 100, 0, 1));
        refused("CRASH -1", Check.ARGUMENT, maker, x -> x.begin(0, 0, 1, -1, 1));
        refused("CRASH 100", Check.ARGUMENT, maker, x -> x.begin(0, 0, 1, 100, 1));
    }

    private static String mark(String numbers) {
        return text(1, "9 9 1 0", "image 0 5 4 0", "mark 0 " + numbers);
    }

    private static void slotBounds() {
        section(1, "A slot has PRIORITY (0 to 15), TRIES (0 to 7), can be GOOD, and has FAULTS (crashes that are"
                + " counted).");
        rightText(mark("0 0"), mark("0 0"));
        rightText(mark("15 7 good"), mark("15 7 good"));
        wrongText(mark("16 7"), 2, 42);
        wrongText(mark("15 8"), 2, 45);
        due("no FAULTS at first", Check.of(mark("15 7 good")).slot(0, 4), 0);
        BootSlots x = on(1, "9 9 7 0", "image 0 5 4 1", "mark 0 1 7");
        x.tick(6);
        x.mark(0, 1, 7);
        x.tick(7);
        due("FAULTS of one that is not GOOD are more than LIMIT", x.slot(0, 4), 13);
    }

    private static String told(BootSlots x, int s) {
        return x.slot(s, 0) + " " + x.slot(s, 1) + " " + x.slot(s, 2) + " " + x.slot(s, 3) + " " + x.slot(s, 4);
    }

    private static void emptySlots() {
        section(1, "A slot without an image has PRIORITY and TRIES 0, no FAULTS, and is not GOOD.");
        due("by the text", told(of(1, "9 9 1 0"), 0), "0 0 0 0 0");
        BootSlots x = on(2, "9 9 1 0", "image 0 5 9 2", "mark 0 9 7 good", "image 1 5 4 0", "mark 1 8 7 good");
        x.tick(2);
        x.mark(1, 15, 7);
        x.reboot();
        due("before", told(x, 0), "1 9 7 1 1");
        x.begin(0, 1, 1, 1, 2);
        due("from the begin of an install on", told(x, 0), "0 0 0 0 0");
        x.tick(1);
        due("until it ends", told(x, 0), "0 0 0 0 0");
        x.cut();
        due("when it is lost", told(x, 0), "0 0 0 0 0");
    }

    private static void machineBounds() {
        section(1, "The machine has WATCH (1 to 99), LIMIT (1 to 9), RETRY (0 to 7) and FLOOR (0 to 99).");
        rightText(text(1, "1 1 0 0"), text(1, "1 1 0 0"));
        rightText(text(1, "99 9 7 99"), text(1, "99 9 7 99"));
        wrongText(text(1, "0 1 0 0"), 2, 8);
        wrongText(text(1, "100 1 0 0"), 1, 8);
        wrongText(text(1, "1 0 0 0"), 2, 10);
        wrongText(text(1, "1 10 0 0"), 2, 10);
        wrongText(text(1, "1 1 8 0"), 2, 12);
        wrongText(text(1, "1 1 0 100"), 1, 14);
        int[][] bounds = {{2, 1, 99}, {3, 1, 9}, {4, 0, 7}, {5, 0, 99}};
        for (int[] b : bounds) {
            takes("the least " + b[0], Edge::six, x -> x.setNumber(b[0], b[1]));
            takes("the greatest " + b[0], Edge::six, x -> x.setNumber(b[0], b[2]));
            refused("less than the least " + b[0], Check.ARGUMENT, Edge::six, x -> x.setNumber(b[0], b[1] - 1));
            refused("more than the greatest " + b[0], Check.ARGUMENT, Edge::six, x -> x.setNumber(b[0], b[2] + 1));
        }
    }

    private static void bootable(String what, int want, String... lines) {
        BootSlots x = of(2, "9 9 1 50", lines);
        due(what, x.slot(0, 5) + " " + x.count(9) + " " + x.choice(), want == 1 ? "1 1 0" : "0 0 -1");
    }

    private static void canBeBooted() {
        section(1, "A slot can be booted if it has an image that is not unsigned, of which VERSION is at least FLOOR,"
                + " its PRIORITY is above 0, and it is GOOD or has TRIES above 0 (whether the image is damaged is not"
                + " known ahead).");
        bootable("VERSION is FLOOR", 1, "image 0 50 4 0");
        bootable("VERSION is 1 less", 0, "image 0 49 4 0");
        bootable("VERSION is 1 more", 1, "image 0 51 4 0");
        bootable("no image", 0);
        bootable("unsigned", 0, "image 0 99 4 0 unsigned");
        bootable("damaged", 1, "image 0 99 4 0 damaged");
        bootable("PRIORITY 0", 0, "image 0 50 4 0", "mark 0 0 7");
        bootable("PRIORITY 0, GOOD", 0, "image 0 50 4 0", "mark 0 0 7 good");
        bootable("PRIORITY 1", 1, "image 0 50 4 0", "mark 0 1 1");
        bootable("TRIES 0", 0, "image 0 50 4 0", "mark 0 15 0");
        bootable("TRIES 0, GOOD", 1, "image 0 50 4 0", "mark 0 15 0 good");
        bootable("TRIES 1", 1, "image 0 50 4 0", "mark 0 15 1");
        due("VERSION 0 and FLOOR 0", of(1, "9 9 1 0", "image 0 0 4 0").slot(0, 5), 1);
        due("VERSION 99 and FLOOR 99", of(1, "9 9 1 99", "image 0 99 4 0").slot(0, 5), 1);
        due("VERSION 98 and FLOOR 99", of(1, "9 9 1 99", "image 0 98 4 0").slot(0, 5), 0);
    }

    private static void states() {
        section(2, "The machine is off, runs an image (of the slot that runs), or is in rescue.");
        BootSlots x = of(1, "9 9 1 0", "image 0 5 9 3");
        due("off", x.count(6) + " " + x.count(7), "0 -1");
        x.power();
        due("it runs", x.count(6) + " " + x.count(7), "1 0");
        x.tick(3);
        due("rescue", x.count(6) + " " + x.count(7), "2 -1");
        x.cut();
        due("off again", x.count(6) + " " + x.count(7), "0 -1");
    }

    private static void preference() {
        section(2, "When it boots, the loader takes, of the slots that can be booted, the one with the greatest"
                + " PRIORITY, of several a GOOD one, of several the one with the greatest VERSION, of several the one"
                + " with the smallest number.");
        due("PRIORITY alone", on(2, "9 9 1 0", "image 0 99 4 0", "mark 0 14 7 good", "image 1 0 4 0", "mark 1 15 1")
                .count(7), 1);
        due("then GOOD", on(2, "9 9 1 0", "image 0 99 4 0", "mark 0 15 7", "image 1 0 4 0", "mark 1 15 0 good")
                .count(7), 1);
        due("then VERSION", on(2, "9 9 1 0", "image 0 98 4 0", "mark 0 15 7", "image 1 99 4 0", "mark 1 15 1")
                .count(7), 1);
        due("then VERSION of GOOD ones", on(2, "9 9 1 0", "image 0 98 4 0", "mark 0 1 7 good", "image 1 99 4 0",
                "mark 1 1 0 good").count(7), 1);
        String[] alike = {"image 0 7 4 0", "image 1 7 4 0", "image 2 7 4 0", "image 3 7 4 0", "image 4 7 4 0",
            "image 5 7 4 0"};
        due("then the number", on(6, "9 9 1 0", alike).count(7), 0);
        BootSlots x = of(6, "9 9 1 0", alike);
        for (int s = 0; s < 5; s++) {
            x.spoil(s, 0);
        }
        due("only of those that can be booted", x.power(), 5);
    }

    private static void tryIsTaken() {
        section(2, "If it is not GOOD its TRIES become 1 less.");
        due("the last one", on(1, "9 9 1 0", "image 0 5 4 0", "mark 0 1 1").slot(0, 2), 0);
        due("of seven", on(1, "9 9 1 0", "image 0 5 4 0", "mark 0 1 7").slot(0, 2), 6);
        due("GOOD, of seven", on(1, "9 9 1 0", "image 0 5 4 0", "mark 0 1 7 good").slot(0, 2), 7);
        due("GOOD, of none", on(1, "9 9 1 0", "image 0 5 4 0", "mark 0 1 0 good").slot(0, 2), 0);
    }

    private static void givenUp() {
        section(2, "If its image is damaged, the slot is given up: its PRIORITY becomes 0, it is not GOOD any more,"
                + " and the loader goes on with the slots that can be booted then.");
        BootSlots x = on(3, "9 9 1 0", "image 0 5 4 0 damaged", "mark 0 15 7 good", "image 1 5 4 0 damaged",
                "mark 1 14 1", "image 2 5 4 0", "mark 2 1 1");
        due("a GOOD one keeps its TRIES", told(x, 0), "1 0 7 0 0");
        due("one that is not GOOD lost one", told(x, 1), "1 0 0 0 0");
        due("the third one runs", x.count(7) + " " + x.boot(0, 2) + " " + x.count(14) + " " + x.count(13), "2 3 2 2");
        BootSlots all = on(6, "9 9 1 0", "image 0 5 4 0 damaged", "image 1 5 4 0 damaged", "image 2 5 4 0 damaged",
                "image 3 5 4 0 damaged", "image 4 5 4 0 damaged", "image 5 5 4 0 damaged");
        due("all six: rescue", all.count(6) + " " + all.boot(0, 2) + " " + all.boot(0, 3) + " " + all.count(14),
                "2 63 -1 6");
        due("each had its try", all.count(13) + " " + all.count(11) + " " + all.count(9), "6 0 0");
        BootSlots faults = on(1, "9 9 1 0", "image 0 5 9 2", "mark 0 1 0 good");
        faults.spoil(0, 1);
        faults.tick(2);
        due("FAULTS stay", told(faults, 0), "1 0 0 0 1");
        due("the image ran until then", faults.count(6) + " " + faults.slot(0, 6), "2 1");
        faults.mark(0, 1, 1);
        faults.reboot();
        due("given up once more", faults.count(14) + " " + told(faults, 0), "2 1 0 0 0 1");
    }

    private static void runsFromNowOn() {
        section(2, "Otherwise it runs from now on, and its AGE is 0.");
        BootSlots x = on(1, "9 9 1 0", "image 0 5 4 0", "mark 0 1 0 good");
        due("AGE at first", x.count(8), 0);
        x.tick(8);
        due("AGE", x.count(8), 8);
        x.reboot();
        due("AGE of the same slot", x.count(7) + " " + x.count(8), "0 0");
    }

    private static void rescue() {
        section(2, "If there is no slot that can be booted, the machine is in rescue.");
        due("no image", on(1, "9 9 1 0").count(6), 2);
        due("no TRIES", on(1, "9 9 1 0", "image 0 5 4 0", "mark 0 1 0").count(6), 2);
        due("the last TRY is one", on(1, "9 9 1 0", "image 0 5 4 0", "mark 0 1 1").count(6), 1);
        BootSlots x = on(1, "9 9 1 0", "image 0 5 4 0", "mark 0 1 1");
        x.reboot();
        due("no TRY is left", x.count(6) + " " + x.count(8), "2 0");
    }

    private static void keptBoots() {
        section(2, "The latest 12 boots are kept, each with its time,");
        int[] numbers = {0, 1, 11, 12, 13, 23, 24, 25, 40};
        for (int n : numbers) {
            BootSlots x = of(1, "9 9 1 0", "image 0 5 4 0", "mark 0 1 0 good");
            for (int i = 1; i <= n; i++) {
                x.tick(i);
                if (i == 1) {
                    x.power();
                } else {
                    x.reboot();
                }
            }
            int kept = Math.min(n, 12);
            for (int ago = 0; ago < kept; ago++) {
                int number = n - ago;
                due("time of boot " + number + " of " + n, x.boot(ago, 0), number * (number + 1) / 2);
            }
            for (int what = 0; what < 4; what++) {
                due("the first one of " + n + " that is not kept", x.boot(kept, what), -2);
            }
            due("those of " + n + " that are kept", x.bootsOf(0), kept);
            due("all of " + n, x.count(12), n);
        }
    }

    private static void causes() {
        section(2, "its cause (0 power, 1 by hand, 2 a crash, 3 a hang, 4 an install in rescue), the slots that were"
                + " given up in it, and the slot that runs by it (none: rescue).");
        BootSlots x = on(2, "3 9 1 0", "image 0 5 9 2", "mark 0 2 2", "image 1 4 9 0 damaged", "mark 1 1 1");
        due("power", boot(x), "0 0 0 0");
        x.reboot();
        due("by hand", boot(x), "0 1 0 0");
        x.tick(2);
        due("a crash, slot 1 given up, none runs", boot(x), "2 2 2 -1");
        x.begin(1, 9, 9, 0, 1);
        x.tick(1);
        due("an install in rescue", boot(x), "3 4 0 1");
        x.tick(3);
        due("a hang", boot(x), "6 3 0 1");
    }

    private static String boot(BootSlots x) {
        return x.boot(0, 0) + " " + x.boot(0, 1) + " " + x.boot(0, 2) + " " + x.boot(0, 3);
    }

    private static BootSlots installing() {
        BootSlots x = Edge.six();
        x.begin(0, 1, 2, 3, 2);
        return x;
    }

    private static void oneInstall() {
        section(4, "At most one install is on.");
        refused("a second one", Check.ARGUMENT, SlotEdges::installing, x -> x.begin(1, 1, 2, 3, 2));
        refused("the same one again", Check.ARGUMENT, SlotEdges::installing, x -> x.begin(0, 1, 2, 3, 2));
        BootSlots x = installing();
        x.tick(1);
        Check.dueThrow("it is on until its last tick", Check.ARGUMENT, () -> x.begin(1, 1, 2, 3, 2));
        x.tick(1);
        due("behind its end", x.begin(1, 1, 2, 3, 2), 4);
        x.cut();
        x.power();
        due("behind a lost one", x.begin(2, 1, 2, 3, 2), 4);
    }

    private static BootSlots runs() {
        return on(2, "9 9 1 0", "image 0 5 4 0", "image 1 5 4 0");
    }

    private static void installBegins() {
        section(4, "It begins for a slot that does not run, with the image, TRIES (1 to 7) and the ticks that it takes"
                + " (1 to 99): the slot is empty from then on until it ends.");
        refused("the slot that runs", Check.ARGUMENT, SlotEdges::runs, x -> x.begin(0, 1, 2, 3, 2));
        takes("the other one", SlotEdges::runs, x -> x.begin(1, 1, 2, 3, 2));
        refused("0 ticks", Check.ARGUMENT, SlotEdges::runs, x -> x.begin(1, 1, 2, 3, 0));
        refused("100 ticks", Check.ARGUMENT, SlotEdges::runs, x -> x.begin(1, 1, 2, 3, 100));
        BootSlots one = runs();
        due("1 tick", one.begin(1, 1, 2, 3, 1) + " " + one.install(3) + " " + told(one, 1), "1 3 0 0 0 0 0");
        one.tick(1);
        due("1 tick later", told(one, 1) + " " + one.install(0), "1 2 3 0 0 -1");
        BootSlots many = runs();
        due("99 ticks", many.begin(1, 1, 2, 3, 99), 99);
        many.tick(98);
        due("98 ticks later", told(many, 1) + " " + many.install(1), "0 0 0 0 0 1");
        many.tick(1);
        due("99 ticks later", told(many, 1) + " " + many.install(1), "1 2 3 0 0 -1");
        BootSlots ran = runs();
        ran.mark(1, 15, 2);
        ran.reboot();
        due("the slot that ran does not any more", ran.begin(0, 1, 2, 3, 2), 2);
    }

    private static void powerIsCut() {
        section(4, "If the power is cut, an install that is on is lost (the slot stays empty).");
        BootSlots x = runs();
        x.begin(1, 1, 2, 3, 2);
        x.tick(1);
        due("one tick ahead of its end", x.cut(), 1);
        due("lost", x.install(0) + " " + told(x, 1), "-1 0 0 0 0 0");
        x.tick(1);
        x.power();
        x.tick(9);
        due("for ever", told(x, 1) + " " + x.count(19), "0 0 0 0 0 0");
        BootSlots ended = runs();
        ended.begin(1, 1, 2, 3, 2);
        ended.tick(2);
        due("one that has ended is not lost", ended.cut() + " " + told(ended, 1), "-1 1 2 3 0 0");
        BootSlots boots = runs();
        boots.begin(1, 1, 2, 3, 2);
        boots.reboot();
        due("a boot by hand leaves it on", boots.install(1), 2);
    }
}
