/** The boundary cases of section 6, and of the 512 calls: exceptions, changes, undo. */
final class RuleEdges extends Edge {
    /** Each call that needs a text, with arguments that are right for busy() and with wrong ones. */
    private static final Call[] WITHOUT_TEXT = {
        x -> x.count(0), x -> x.count(20), x -> x.slot(0, 0), x -> x.slot(9, 9), x -> x.image(0, 0), x -> x.image(9, 9),
        x -> x.install(0), x -> x.install(9), x -> x.boot(0, 0), x -> x.boot(0, 9), x -> x.whyNot(0), x -> x.whyNot(9),
        BootSlots::choice, x -> x.place(0), x -> x.place(9), BootSlots::newest, BootSlots::spare, BootSlots::fallback,
        BootSlots::weakest, x -> x.twins(0), x -> x.twins(9), BootSlots::sinking, x -> x.floorWith(0),
        x -> x.floorWith(9), x -> x.mayHold(0), x -> x.mayHold(9), BootSlots::mostBoots, x -> x.bootsOf(0),
        x -> x.bootsOf(9), x -> x.stateIn(0), x -> x.stateIn(301), x -> x.slotIn(0), x -> x.slotIn(301),
        x -> x.floorIn(0), x -> x.floorIn(301), x -> x.bootsIn(0), x -> x.bootsIn(301), x -> x.runsIn(0, 0),
        x -> x.runsIn(9, 301), x -> x.crashesIn(0), x -> x.crashesIn(301), BootSlots::newerIn, BootSlots::rescueIn,
        x -> x.goodIn(0), x -> x.goodIn(9), BootSlots::calmIn, x -> x.triesIn(0, 0), x -> x.triesIn(9, 301),
        BootSlots::ifBooted, BootSlots::givenUpIf, BootSlots::settlesOn, x -> x.settlesWithout(0),
        x -> x.settlesWithout(9), x -> x.ifInstalled(0, 0, 1), x -> x.ifInstalled(9, 100, 0), x -> x.triesFor(0),
        x -> x.triesFor(9), x -> x.bestWatch(0), x -> x.bestWatch(9), BootSlots::highestFloor, BootSlots::keySlot,
        BootSlots::successShare, BootSlots::meanBoot, BootSlots::writeSlots, BootSlots::writeBoots,
        BootSlots::writeMachine, BootSlots::power, BootSlots::cut, BootSlots::reboot, x -> x.tick(1), x -> x.tick(0),
        x -> x.begin(0, 0, 1, 0, 1), x -> x.begin(9, 100, 0, 100, 0), x -> x.spoil(0, 0), x -> x.spoil(9, 9),
        x -> x.mark(0, 0, 0), x -> x.mark(9, 16, 8), x -> x.setNumber(2, 9), x -> x.setNumber(9, 0), BootSlots::undo,
        x -> x.save(0), x -> x.save(9), x -> x.restore(0),
    };

    /** Each call that asks, with arguments that are right for busy(). */
    private static final Call[] ASKS = {
        x -> x.count(0), x -> x.slot(0, 0), x -> x.image(0, 0), x -> x.install(0), x -> x.boot(0, 0), x -> x.whyNot(0),
        BootSlots::choice, x -> x.place(0), BootSlots::newest, BootSlots::spare, BootSlots::fallback, BootSlots::weakest,
        x -> x.twins(0), BootSlots::sinking, x -> x.floorWith(0), x -> x.mayHold(0), BootSlots::mostBoots,
        x -> x.bootsOf(0),
    };

    private static final Call[] WILL_BE = {
        x -> x.stateIn(300), x -> x.slotIn(300), x -> x.floorIn(300), x -> x.bootsIn(300), x -> x.runsIn(0, 300),
        x -> x.crashesIn(300), BootSlots::newerIn, BootSlots::rescueIn, x -> x.goodIn(3), BootSlots::calmIn,
        x -> x.triesIn(0, 300),
    };

    private static final Call[] WOULD_BE = {
        BootSlots::ifBooted, BootSlots::givenUpIf, BootSlots::settlesOn, x -> x.settlesWithout(0),
        x -> x.ifInstalled(0, 9, 9), x -> x.triesFor(1), x -> x.bestWatch(1), BootSlots::highestFloor,
        BootSlots::keySlot,
    };

    private static final Call[] CHANGES = {
        BootSlots::power, BootSlots::reboot, x -> x.tick(1), x -> x.begin(3, 1, 1, 1, 9), x -> x.spoil(0, 1),
        x -> x.mark(0, 1, 1), x -> x.setNumber(2, 9), BootSlots::cut,
    };

    static void all() {
        noText();
        noSuchSlot();
        severalExceptions();
        refusedCalls();
        changes();
        sameAgain();
        latestEight();
        sinceLoadOrRestore();
        textStays();
        constants();
        headings();
        calls();
    }

    private static void noText() {
        section(6, "IllegalStateException is thrown if no text was loaded.");
        for (int i = 0; i < WITHOUT_TEXT.length; i++) {
            refused("call " + i, Check.STATE, BootSlots::new, WITHOUT_TEXT[i]);
        }
        takes("append", BootSlots::new, x -> x.append(0, 0, 0, 0, 0));
        takes("parseError", BootSlots::new, BootSlots::parseError);
        takes("errorPosition", BootSlots::new, BootSlots::errorPosition);
        takes("buffered", BootSlots::new, BootSlots::buffered);
        takes("undoable", BootSlots::new, BootSlots::undoable);
    }

    private static void noSuchSlot() {
        section(6, "IndexOutOfBoundsException is thrown if there is no such slot (of the machine, or to save in).");
        refused("a slot of the machine", Check.INDEX, Edge::busy, x -> x.slot(4, 0));
        takes("the last slot of the machine", Edge::busy, x -> x.slot(3, 0));
        refused("a slot to save in", Check.INDEX, Edge::busy, x -> x.save(2));
        takes("the last slot to save in", Edge::busy, x -> x.save(1));
        refused("a slot to restore from", Check.INDEX, Edge::busy, x -> x.restore(2));
        takes("the last slot to restore from", Edge::busy, x -> x.restore(1));
    }

    private static void severalExceptions() {
        section(6, "If several exceptions apply, the one that is listed first at the method is thrown.");
        refused("load: no such bytes, and they would be wrong", Check.INDEX, BootSlots::new, x -> x.load(1));
        refused("save: no text", Check.STATE, BootSlots::new, x -> x.save(2));
        refused("restore: no such slot, with nothing saved", Check.INDEX, BootSlots::new, x -> x.restore(2));
        Call[] wrongTwice = {x -> x.slot(4, 9), x -> x.image(4, 5), x -> x.runsIn(4, 301), x -> x.triesIn(4, -1),
            x -> x.ifInstalled(4, 100, 0), x -> x.begin(4, 100, 0, 100, 0), x -> x.spoil(4, 3), x -> x.mark(4, 16, 8),
            x -> x.slot(-1, -1), x -> x.image(-1, -1), x -> x.begin(-1, 1, 1, 1, 1)};
        for (int i = 0; i < wrongTwice.length; i++) {
            refused("no such slot, and a wrong number, " + i, Check.INDEX, Edge::busy, wrongTwice[i]);
            refused("no text, no such slot, and a wrong number, " + i, Check.STATE, BootSlots::new, wrongTwice[i]);
        }
    }

    private static void refusedCalls() {
        section(6, "A call of a method that throws an exception changes nothing, except what is said at load about the input"
                + " buffer, and that load, by IllegalArgumentException, sets parseError() and errorPosition().");
        refused("power", Check.ARGUMENT, Edge::busy, BootSlots::power);
        refused("tick", Check.ARGUMENT, Edge::busy, x -> x.tick(301));
        refused("begin", Check.ARGUMENT, Edge::busy, x -> x.begin(1, 1, 1, 1, 1));
        refused("load of too much", Check.INDEX, Edge::busy, x -> x.load(21));
        String told = everything(busy());
        BootSlots x = busy();
        Check.dueThrow("load of nothing", Check.ARGUMENT, () -> x.load(0));
        due("buffer and error alone", everything(x), told.replaceFirst("^20 1 8 ", "0 1 0 "));
        // an error anywhere in a long text leaves no trace of what was read ahead of it
        BootSlots y = busy();
        Check.feed(y, ";slot;image 0 5 4 0;mark 0 1 1;image 0 5 4 0");
        Check.dueThrow("load of a text with an error", Check.ARGUMENT, () -> y.load(80));
        due("still buffer and error alone", everything(y), told.replaceFirst("^20 1 8 ", "0 3 57 "));
    }

    private static void changes() {
        section(6, "The methods that are documented as changes can be undone, the latest one first;");
        String[] told = new String[CHANGES.length];
        BootSlots x = Check.of(NowTest.FOUR);
        for (int i = 0; i < CHANGES.length; i++) {
            told[i] = brief(x);
            CHANGES[i].on(x);
            due("change " + i + " alters something", brief(x).equals(told[i]), false);
            due("change " + i + " counts", x.undoable(), i + 1);
        }
        for (int i = CHANGES.length - 1; i >= 0; i--) {
            due("undo of change " + i, x.undo(), i);
            due("as it was before change " + i, brief(x), told[i]);
        }
    }

    /** What the changes alter, in few calls. */
    private static String brief(BootSlots x) {
        return x.count(1) + " " + x.count(2) + " " + x.count(6) + " " + x.count(8) + " " + x.count(11) + " " + x.count(12)
                + " " + x.install(0) + " " + x.image(0, 4) + " " + x.slot(0, 1) + " " + x.slot(1, 2) + " " + x.slot(3, 0);
    }

    private static void sameAgain() {
        section(6, "each call of one of them that succeeds is a change, even if nothing is different then.");
        Call[] same = {x -> x.mark(1, x.slot(1, 1), x.slot(1, 2)), x -> x.setNumber(2, x.count(2)),
            x -> x.setNumber(5, x.count(5)), x -> x.spoil(2, 1)};
        for (int i = 0; i < same.length; i++) {
            String before = Check.all(busy());
            BootSlots x = busy();
            same[i].on(x);
            due("nothing is different, " + i, Check.all(x), before);
            due("a change, " + i, x.undoable(), 5);
            due("that can be undone, " + i, x.undo(), 4);
        }
    }

    private static void latestEight() {
        section(6, "Only the latest 8 changes since the last successful call of load or restore are kept for this.");
        for (int changes : new int[] {7, 8, 9, 16, 17}) {
            BootSlots x = Check.of(NowTest.FOUR);
            for (int i = 1; i <= changes; i++) {
                x.mark(0, i % 16, 0);
            }
            int kept = Math.min(changes, 8);
            due("kept of " + changes, x.undoable(), kept);
            for (int i = 0; i < kept; i++) {
                x.undo();
            }
            int first = changes == kept ? 2 : (changes - kept) % 16;
            due("PRIORITY behind all undos of " + changes, x.slot(0, 1), first);
            Check.dueThrow("one undo more of " + changes, Check.STATE, x::undo);
        }
    }

    private static void sinceLoadOrRestore() {
        BootSlots x = busy();
        Check.dueThrow("a load that is refused", Check.INDEX, () -> x.load(21));
        Check.dueThrow("a restore that is refused", Check.STATE, () -> x.restore(0));
        due("they leave the changes", x.undoable(), 4);
        Check.dueThrow("a load with an error", Check.ARGUMENT, () -> x.load(19));
        due("it leaves the changes", x.undo(), 3);
        x.restore(1);
        due("restore", x.undoable(), 0);
        x.tick(1);
        due("a change behind it", x.undoable(), 1);
        due("undone to what was restored", x.undo() + " " + x.count(1), "0 2");
        Check.dueThrow("no further", Check.STATE, x::undo);
        BootSlots y = busy();
        y.load(20);
        due("load", y.undoable(), 0);
        y.power();
        due("undone to what was loaded", y.undo() + " " + y.count(12), "0 0");
        Check.dueThrow("no further than load", Check.STATE, y::undo);
    }

    private static void textStays() {
        section(6, "The text that was written last stays until the next text, also behind load, undo and restore.");
        String text = "5:2/0! 7:9/0* 3:4/1 -";
        BootSlots x = busy();
        x.undo();
        due("behind undo", written(x), text);
        x.restore(1);
        due("behind restore", written(x), text);
        x.load(20);
        due("behind load", written(x), text);
        Check.dueThrow("load", Check.ARGUMENT, () -> x.load(0));
        due("behind an error", written(x), text);
        x.power();
        x.tick(300);
        due("behind changes", written(x), text);
        x.writeSlots();
        due("until the next text", written(x), "-");
    }

    private static void constants() {
        section(6, "The constants: `NONE = -1`: The value for \"none\", -1.");
        due("NONE", BootSlots.NONE, -1);
    }

    private static void askNothing(String what, Call[] calls) {
        for (int i = 0; i < calls.length; i++) {
            Object answer = calls[i].on(busy());
            asks(what + " " + i, Edge::busy, calls[i], answer);
        }
    }

    /** What stands in the interface ahead of its groups of calls. */
    private static void headings() {
        section(6, "Ahead of the calls `append`, `load`, `parseError`, `errorPosition`, `buffered` the interface says: ----"
                + " input.");
        asks("parseError", Edge::busy, BootSlots::parseError, 1);
        asks("errorPosition", Edge::busy, BootSlots::errorPosition, 8);
        asks("buffered", Edge::busy, BootSlots::buffered, 20);
        section(6, "Ahead of the calls `count`, `slot`, `image`, `install`, `boot` the interface says: ---- the machine as it"
                + " is.");
        section(6, "Ahead of the calls `whyNot`, `choice`, `place`, `newest`, `spare`, `fallback`, `weakest`, `twins`,"
                + " `sinking`, `floorWith`, `mayHold`, `mostBoots`, `bootsOf` the interface says: ---- what is found.");
        askNothing("found", ASKS);
        section(6, "Ahead of the calls `stateIn`, `slotIn`, `floorIn`, `bootsIn`, `runsIn`, `crashesIn`, `newerIn`,"
                + " `rescueIn`, `goodIn`, `calmIn`, `triesIn` the interface says: ---- what will be if only ticks pass"
                + " (nothing is changed; also beyond the time 9999).");
        askNothing("will be", WILL_BE);
        beyondTheLastTime();
        section(6, "Ahead of the calls `ifBooted`, `givenUpIf`, `settlesOn`, `settlesWithout`, `ifInstalled`, `triesFor`,"
                + " `bestWatch`, `highestFloor`, `keySlot` the interface says: ---- what would be otherwise (nothing is"
                + " changed).");
        askNothing("would be", WOULD_BE);
        section(6, "Ahead of the calls `successShare`, `meanBoot` the interface says: ---- floats.");
        section(6, "Ahead of the calls `writeSlots`, `writeBoots`, `writeMachine`, `textByte` the interface says: ----"
                + " texts.");
        asks("textByte", Edge::busy, x -> x.textByte(0), (int) '5');
        section(6, "Ahead of the calls `power`, `cut`, `reboot`, `tick`, `begin`, `spoil`, `mark`, `setNumber`, `undo`,"
                + " `undoable`, `save`, `restore` the interface says: ---- changes (each can be undone, the latest one"
                + " first).");
        due("eight calls are told as changes", CHANGES.length, 8);
    }

    /** At the time 9999, slot 0 runs, hangs each 50 ticks, at 300 slot 1 runs, which is newer and GOOD at 301. */
    private static BootSlots last() {
        BootSlots x = of(2, "50 9 1 0", "image 0 5 99 0", "mark 0 9 6", "image 1 6 1 0");
        for (int i = 0; i < 33; i++) {
            x.tick(300);
        }
        x.tick(99);
        x.power();
        return x;
    }

    private static void beyondTheLastTime() {
        due("stateIn", last().stateIn(300), 1);
        due("slotIn", last().slotIn(299) + " " + last().slotIn(300), "0 1");
        due("floorIn", last().floorIn(300), 0);
        due("bootsIn", last().bootsIn(300), 6);
        due("runsIn", last().runsIn(1, 300), 1);
        due("crashesIn", last().crashesIn(300), 0);
        due("newerIn", last().newerIn(), 300);
        due("rescueIn", last().rescueIn(), -1);
        due("goodIn", last().goodIn(1), -1);
        due("calmIn", last().calmIn(), 300);
        due("triesIn", last().triesIn(0, 249) + " " + last().triesIn(0, 250), "1 0");
        due("settlesOn", last().settlesOn(), 1);
        Check.dueThrow("but no tick passes", Check.ARGUMENT, () -> last().tick(1));
    }

    /** The last of 512 calls is answered as the first one is. */
    private static void calls() {
        Check.about("What it is, \"An object is used for at most 512 calls after it has been made\"");
        Doc.hold("What it is", "An object is used for at most 512 calls after it has been made;");
        BootSlots changed = new BootSlots();
        Check.feed(changed, "machine 9 9 1 0;slot");
        changed.load(20);
        changed.power();
        for (int call = 4; call <= 510; call++) {
            changed.setNumber(2, call % 99 + 1);
        }
        due("call 511", changed.undo(), 7);
        due("call 512", changed.count(2), 509 % 99 + 1);
        BootSlots boots = new BootSlots();
        Check.feed(boots, "machine 9 9 1 0;slot");
        boots.load(20);
        boots.power();
        for (int call = 4; call <= 511; call++) {
            boots.reboot();
        }
        due("the 512th call, of 509 boots", boots.count(12), 509);
        BootSlots crashes = on(1, "9 9 1 0", "image 0 5 1 2", "mark 0 1 0 good");
        for (int i = 0; i < 33; i++) {
            crashes.tick(300);
        }
        due("as many crashes as the time lets", crashes.count(15) + " " + crashes.slot(0, 6), "4950 4951");
        BootSlots saved = Check.of("machine 9 9 1 0;slot");
        saved.save(0);
        for (int i = 0; i < 250; i++) {
            saved.tick(300);
            saved.restore(0);
        }
        due("ticks and restores for ever", saved.count(1), 0);
    }
}
