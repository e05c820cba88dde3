/** The boundary cases of promises 51 to 62: changes, undo, save and restore. */
final class ChangeEdges extends Edge {
    private static final String CHANGE = "This is a change.";

    static void all() {
        power();
        cut();
        reboot();
        tick();
        begin();
        beginThrows();
        spoil();
        mark();
        setNumber();
        setNumberThrows();
        undo();
        undoOfAll();
        undoable();
        save();
        restore();
    }

    private static BootSlots off() {
        return Check.of(NowTest.FOUR);
    }

    private static BootSlots rescue() {
        return six();
    }

    /** The call adds one to what can be undone, and undo takes all of it back. */
    private static void isChange(int number, String what, Maker maker, Call call) {
        promise(number, CHANGE);
        BootSlots before = maker.make();
        BootSlots x = maker.make();
        call.on(x);
        due(what + " can be undone", x.undoable(), before.undoable() + 1);
        due(what + " undone", x.undo(), before.undoable());
        due("all is as it was before " + what, everything(x), everything(before));
    }

    private static void power() {
        promise(51, "The power comes: the machine boots (0).");
        BootSlots x = off();
        x.tick(7);
        x.power();
        due("the boot", x.boot(0, 0) + " " + x.boot(0, 1) + " " + x.count(6) + " " + x.count(8), "7 0 1 0");
        promise(51, "Returns the slot that runs then; NONE for rescue.");
        due("slot 0", of(1, "9 9 1 0", "image 0 5 4 0").power(), 0);
        due("slot 5", of(6, "9 9 1 0", "image 5 5 4 0").power(), 5);
        due("rescue", of(6, "9 9 1 0").power(), -1);
        due("rescue, one was given up", of(6, "9 9 1 0", "image 5 5 4 0 damaged").power(), -1);
        isChange(51, "power", ChangeEdges::off, BootSlots::power);
        needsText(51, "power", BootSlots::power);
        promise(51, "Throws `IllegalArgumentException` if the machine is not off");
        refused("it runs", Check.ARGUMENT, Edge::busy, BootSlots::power);
        refused("it is in rescue", Check.ARGUMENT, ChangeEdges::rescue, BootSlots::power);
        takes("it is off", ChangeEdges::off, BootSlots::power);
    }

    private static void cut() {
        promise(52, "The power is cut: the machine is off.");
        BootSlots x = busy();
        x.cut();
        due("off", x.count(6) + " " + x.count(7) + " " + x.count(8), "0 -1 0");
        due("it runs again", x.power(), 0);
        promise(52, "Returns the slot of the install that is lost; NONE if none was on.");
        due("slot 3", busy().cut(), 3);
        due("none", rescue().cut(), -1);
        BootSlots first = rescue();
        first.begin(0, 5, 4, 0, 1);
        due("slot 0", first.cut(), 0);
        BootSlots ended = busy();
        ended.tick(8);
        due("one that has ended", ended.cut(), -1);
        isChange(52, "cut", Edge::busy, BootSlots::cut);
        needsText(52, "cut", BootSlots::cut);
        promise(52, "Throws `IllegalArgumentException` if the machine is off");
        refused("off at first", Check.ARGUMENT, ChangeEdges::off, BootSlots::cut);
        refused("off by a cut", Check.ARGUMENT, ChangeEdges::wasCut, BootSlots::cut);
        takes("it runs", Edge::busy, BootSlots::cut);
        takes("it is in rescue", ChangeEdges::rescue, BootSlots::cut);
    }

    private static BootSlots wasCut() {
        BootSlots x = busy();
        x.cut();
        return x;
    }

    private static void reboot() {
        promise(53, "The machine boots by hand (1).");
        BootSlots x = busy();
        x.reboot();
        due("the boot", x.boot(0, 0) + " " + x.boot(0, 1) + " " + x.count(6) + " " + x.count(8), "3 1 1 0");
        promise(53, "Returns the slot that runs then; NONE for rescue.");
        due("slot 0, another one", busy().reboot(), 0);
        due("rescue", rescue().reboot(), -1);
        due("from running to rescue", on(1, "9 9 1 0", "image 0 5 4 0").reboot(), -1);
        BootSlots back = six();
        back.mark(5, 1, 1);
        due("slot 5, from rescue", back.reboot(), 5);
        isChange(53, "reboot", Edge::busy, BootSlots::reboot);
        isChange(53, "reboot to rescue", ChangeEdges::rescue, BootSlots::reboot);
        needsText(53, "reboot", BootSlots::reboot);
        promise(53, "Throws `IllegalArgumentException` if the machine is off");
        refused("off at first", Check.ARGUMENT, ChangeEdges::off, BootSlots::reboot);
        refused("off by a cut", Check.ARGUMENT, ChangeEdges::wasCut, BootSlots::reboot);
    }

    private static BootSlots at(int time) {
        BootSlots x = off();
        int left = time;
        for (int i = 0; i < 40 && left > 0; i++) {
            int n = Math.min(300, left);
            x.tick(n);
            left -= n;
        }
        return x;
    }

    private static void tick() {
        promise(54, "Lets ticks pass (section 3).");
        due("one by one or all at once", oneByOne(30), at30());
        promise(54, "- `n`: 1 to 300");
        takes("1", Edge::busy, x -> x.tick(1));
        takes("300", Edge::busy, x -> x.tick(300));
        promise(54, "Returns how many boots there were in them.");
        due("none", busy().tick(2), 0);
        due("the third tick", busy().tick(3), 1);
        due("more than are kept", on(1, "9 9 1 0", "image 0 5 1 2", "mark 0 1 0 good").tick(300), 150);
        due("off", off().tick(300), 0);
        isChange(54, "tick", Edge::busy, x -> x.tick(1));
        isChange(54, "tick of an off machine", ChangeEdges::off, x -> x.tick(300));
        needsText(54, "tick", x -> x.tick(1), x -> x.tick(0), x -> x.tick(301));
        promise(54, "Throws `IllegalArgumentException` if n is out of range, or the time would be greater than 9999");
        wrongNumbers("tick", Edge::busy, BootSlots::tick, 0, -1, 301, LEAST, GREATEST);
        takes("to 9999", () -> at(9699), x -> x.tick(300));
        refused("to 10000", Check.ARGUMENT, () -> at(9700), x -> x.tick(300));
        takes("from 9998 to 9999", () -> at(9998), x -> x.tick(1));
        refused("from 9998 to 10000", Check.ARGUMENT, () -> at(9998), x -> x.tick(2));
        refused("from 9999 on", Check.ARGUMENT, () -> at(9999), x -> x.tick(1));
        refused("from 9999 by the greatest number", Check.ARGUMENT, () -> at(9999), x -> x.tick(GREATEST));
    }

    private static String oneByOne(int ticks) {
        BootSlots x = busy();
        for (int i = 0; i < ticks; i++) {
            x.tick(1);
        }
        return Check.all(x);
    }

    private static String at30() {
        BootSlots x = busy();
        x.tick(30);
        return Check.all(x);
    }

    private static void begin() {
        promise(55, "Begins an install (section 4) of an image that is neither unsigned nor damaged, with 3 TRIES.");
        BootSlots x = on(2, "9 9 1 0", "image 0 5 4 0", "image 1 5 4 0 unsigned damaged");
        x.begin(1, 6, 7, 8, 1);
        due("TRIES", x.install(3), 3);
        x.tick(1);
        due("the image", x.image(1, 0) + " " + x.image(1, 1) + " " + x.image(1, 2) + " " + x.image(1, 3) + " "
                + x.image(1, 4) + " " + x.slot(1, 2), "6 7 8 0 0 3");
        promise(55, "- `version`: VERSION, 0 to 99");
        promise(55, "- `start`: START, 1 to 99");
        promise(55, "- `crash`: CRASH, 0 to 99");
        promise(55, "- `ticks`: the ticks that it takes, 1 to 99");
        takes("the least numbers", Edge::six, y -> y.begin(0, 0, 1, 0, 1));
        takes("the greatest numbers", Edge::six, y -> y.begin(0, 99, 99, 99, 99));
        promise(55, "Returns the time at which it ends, if the machine is not off until then.");
        due("1", rescue().begin(0, 5, 4, 0, 1), 1);
        due("99", rescue().begin(0, 5, 4, 0, 99), 99);
        BootSlots late = at(9999);
        late.power();
        due("beyond the last time", late.begin(0, 5, 4, 0, 99), 10098);
        isChange(55, "begin", Edge::six, y -> y.begin(5, 5, 4, 0, 99));
        needsText(55, "begin", y -> y.begin(0, 5, 4, 0, 9), y -> y.begin(6, -1, 0, -1, 0));
        needsSlot(55, "begin", (y, s) -> y.begin(s, 5, 4, 0, 9));
        noSlot("begin with wrong numbers", (y, s) -> y.begin(s, 100, 100, 100, 100));
        refused("no such slot while it is off", Check.INDEX, ChangeEdges::off, y -> y.begin(4, 5, 4, 0, 9));
    }

    private static void beginThrows() {
        promise(55, "Throws `IllegalArgumentException` if a number is out of range, the slot runs, an install is on, or the"
                + " machine is off");
        wrongNumbers("begin, VERSION", Edge::six, (x, n) -> x.begin(0, n, 4, 0, 9), -1, 100, LEAST, GREATEST);
        wrongNumbers("begin, START", Edge::six, (x, n) -> x.begin(0, 5, n, 0, 9), -1, 0, 100, LEAST, GREATEST);
        wrongNumbers("begin, CRASH", Edge::six, (x, n) -> x.begin(0, 5, 4, n, 9), -1, 100, LEAST, GREATEST);
        wrongNumbers("begin, ticks", Edge::six, (x, n) -> x.begin(0, 5, 4, 0, n), -1, 0, 100, LEAST, GREATEST);
        refused("the slot runs", Check.ARGUMENT, () -> on(2, "9 9 1 0", "image 0 5 4 0"), x -> x.begin(0, 5, 4, 0, 9));
        takes("the other one", () -> on(2, "9 9 1 0", "image 0 5 4 0"), x -> x.begin(1, 5, 4, 0, 9));
        refused("an install is on for it", Check.ARGUMENT, Edge::busy, x -> x.begin(3, 5, 4, 0, 9));
        refused("an install is on for another one", Check.ARGUMENT, Edge::busy, x -> x.begin(2, 5, 4, 0, 9));
        refused("off", Check.ARGUMENT, ChangeEdges::off, x -> x.begin(3, 5, 4, 0, 9));
        refused("off by a cut", Check.ARGUMENT, ChangeEdges::wasCut, x -> x.begin(3, 5, 4, 0, 9));
    }

    private static void spoil() {
        promise(56, "Spoils the image of a slot, or that of the install that is on for it.");
        promise(56, "- `how`: 0 it is not signed from now on, 1 it is damaged, 2 both");
        promise(56, "Returns 1 if that image is unsigned then, otherwise 0, and 2 more if it is damaged.");
        int[] want = {1, 2, 3};
        for (int how = 0; how < 3; how++) {
            BootSlots x = off();
            due("spoil " + how, x.spoil(0, how), want[how]);
            due("the image", x.image(0, 3) + 2 * x.image(0, 4), want[how]);
            BootSlots y = busy();
            due("spoil of an install " + how, y.spoil(3, how), want[how]);
            y.tick(8);
            due("the image that came", y.image(3, 3) + 2 * y.image(3, 4), want[how]);
        }
        BootSlots damaged = off();
        due("it was damaged", damaged.spoil(2, 0), 3);
        due("it was both", damaged.spoil(2, 1), 3);
        due("it was both", damaged.spoil(2, 0), 3);
        due("the others are not", damaged.image(1, 3) + damaged.image(1, 4) + damaged.image(0, 3), 0);
        isChange(56, "spoil", ChangeEdges::off, x -> x.spoil(0, 2));
        isChange(56, "spoil of an install", Edge::busy, x -> x.spoil(3, 2));
        isChange(56, "spoil that alters nothing", ChangeEdges::off, x -> x.spoil(2, 1));
        needsText(56, "spoil", x -> x.spoil(0, 0), x -> x.spoil(6, 3), x -> x.spoil(-1, -1));
        needsSlot(56, "spoil", (x, s) -> x.spoil(s, 2));
        noSlot("spoil, how 3", (x, s) -> x.spoil(s, 3));
        promise(56, "Throws `IllegalArgumentException` if how is out of range, or the slot is empty and no install is on for"
                + " it");
        wrongNumbers("spoil, how", Edge::busy, (x, how) -> x.spoil(0, how), -1, 3, LEAST, GREATEST);
        wrongNumbers("spoil of an install, how", Edge::busy, (x, how) -> x.spoil(3, how), -1, 3);
        refused("the slot is empty", Check.ARGUMENT, ChangeEdges::off, x -> x.spoil(3, 0));
        refused("the slot of a lost install", Check.ARGUMENT, ChangeEdges::wasCut, x -> x.spoil(3, 0));
        refused("an install is on for another one", Check.ARGUMENT, ChangeEdges::twoEmpty, x -> x.spoil(1, 0));
        takes("the slot is empty, an install is on for it", ChangeEdges::twoEmpty, x -> x.spoil(0, 0));
    }

    /** Two empty slots, an install is on for slot 0. */
    private static BootSlots twoEmpty() {
        BootSlots x = on(2, "9 9 1 0");
        x.begin(0, 5, 4, 0, 9);
        return x;
    }

    private static void mark() {
        promise(57, "Sets PRIORITY and TRIES of a slot by hand.");
        promise(57, "- `priority`: 0 to 15");
        promise(57, "- `tries`: 0 to 7");
        BootSlots x = off();
        x.mark(0, 0, 0);
        due("the least", x.slot(0, 1) + " " + x.slot(0, 2) + " " + x.slot(0, 3), "0 0 1");
        x.mark(0, 15, 7);
        due("the greatest, it stays GOOD", x.slot(0, 1) + " " + x.slot(0, 2) + " " + x.slot(0, 3), "15 7 1");
        promise(57, "Returns PRIORITY before.");
        due("15", x.mark(0, 0, 0), 15);
        due("0", x.mark(0, 1, 0), 0);
        due("the same", x.mark(0, 1, 0), 1);
        isChange(57, "mark", Edge::busy, y -> y.mark(1, 15, 7));
        isChange(57, "mark that alters nothing", ChangeEdges::off, y -> y.mark(2, 4, 1));
        needsText(57, "mark", y -> y.mark(0, 1, 1), y -> y.mark(6, 16, 8), y -> y.mark(-1, -1, -1));
        needsSlot(57, "mark", (y, s) -> y.mark(s, 15, 7));
        noSlot("mark with wrong numbers", (y, s) -> y.mark(s, 16, 8));
        promise(57, "Throws `IllegalArgumentException` if a number is out of range, or the slot is empty");
        wrongNumbers("mark, PRIORITY", Edge::busy, (y, n) -> y.mark(0, n, 1), -1, 16, LEAST, GREATEST);
        wrongNumbers("mark, TRIES", Edge::busy, (y, n) -> y.mark(0, 1, n), -1, 8, LEAST, GREATEST);
        refused("the slot is empty", Check.ARGUMENT, ChangeEdges::off, y -> y.mark(3, 1, 1));
        refused("the slot of an install", Check.ARGUMENT, Edge::busy, y -> y.mark(3, 1, 1));
    }

    private static void setNumber() {
        promise(58, "Sets a number of the machine.");
        promise(58, "- `what`: 2 WATCH, 3 LIMIT, 4 RETRY, 5 FLOOR");
        promise(58, "Returns the previous value.");
        int[][] bounds = {{2, 1, 99}, {3, 1, 9}, {4, 0, 7}, {5, 0, 99}};
        for (int[] b : bounds) {
            BootSlots x = of(1, "5 5 5 0");
            int before = b[0] == 5 ? 0 : 5;
            due("before the least of " + b[0], x.setNumber(b[0], b[1]), before);
            due("the least of " + b[0], x.count(b[0]), b[1]);
            due("before the greatest of " + b[0], x.setNumber(b[0], b[2]), b[1]);
            due("the greatest of " + b[0], x.count(b[0]), b[2]);
            due("the same of " + b[0], x.setNumber(b[0], b[2]), b[2]);
            due("nothing else than " + b[0], x.count(2) + x.count(3) + x.count(4) + x.count(5), 15 - before + b[2]);
            isChange(58, "setNumber of " + b[0], Edge::busy, y -> y.setNumber(b[0], b[2]));
        }
    }

    private static void setNumberThrows() {
        promise(58, "- `value`: the new value, within its bounds (of FLOOR: not less than it is)");
        takes("FLOOR as it is", Edge::busy, x -> x.setNumber(5, 1));
        refused("FLOOR 1 less than it is", Check.ARGUMENT, Edge::busy, x -> x.setNumber(5, 0));
        takes("FLOOR 99 as it is", () -> of(1, "9 9 1 99"), x -> x.setNumber(5, 99));
        refused("FLOOR 98 of 99", Check.ARGUMENT, () -> of(1, "9 9 1 99"), x -> x.setNumber(5, 98));
        needsText(58, "setNumber", x -> x.setNumber(2, 9), x -> x.setNumber(1, 0), x -> x.setNumber(2, 0));
        promise(58, "Throws `IllegalArgumentException` if what or value is out of range");
        wrongNumbers("setNumber, what", Edge::busy, (x, what) -> x.setNumber(what, 5), -1, 0, 1, 6, LEAST, GREATEST);
        wrongNumbers("setNumber, WATCH", Edge::busy, (x, v) -> x.setNumber(2, v), -1, 0, 100, LEAST, GREATEST);
        wrongNumbers("setNumber, LIMIT", Edge::busy, (x, v) -> x.setNumber(3, v), -1, 0, 10, LEAST, GREATEST);
        wrongNumbers("setNumber, RETRY", Edge::busy, (x, v) -> x.setNumber(4, v), -1, 8, LEAST, GREATEST);
        wrongNumbers("setNumber, FLOOR", Edge::busy, (x, v) -> x.setNumber(5, v), -1, 0, 100, LEAST, GREATEST);
    }

    /** So many changes, behind each of which the time is one greater. */
    private static BootSlots changed(int changes) {
        BootSlots x = on(1, "9 9 1 0", "image 0 5 4 0");
        x.save(0);
        x.restore(0);
        for (int i = 0; i < changes; i++) {
            x.tick(1);
        }
        return x;
    }

    private static void undo() {
        promise(59, "Undoes the latest change that has not been undone; the input buffer, parseError() and errorPosition()"
                + " stay.");
        for (int changes : new int[] {1, 2, 7, 8, 9, 15, 16, 17, 40}) {
            BootSlots x = changed(changes);
            int kept = Math.min(changes, 8);
            for (int i = 1; i <= kept; i++) {
                due("undo " + i + " of " + changes, x.undo(), kept - i);
                due("the time", x.count(1), changes - i);
            }
            Check.dueThrow("no more", Check.STATE, x::undo);
            due("the time then", x.count(1), changes - kept);
            x.tick(2);
            due("a change behind that, undone", x.undo() + " " + x.count(1), "0 " + (changes - kept));
        }
        BootSlots busy = busy();
        busy.undo();
        due("buffer and error stay", busy.buffered() + " " + busy.parseError() + " " + busy.errorPosition(), "20 1 8");
        due("the text stays", written(busy), "5:2/0! 7:9/0* 3:4/1 -");
        promise(59, "Returns the number of changes that can still be undone.");
        due("seven of eight", changed(8).undo(), 7);
        due("seven of more", changed(9).undo(), 7);
        due("none of one", changed(1).undo(), 0);
        promise(59, "Throws `IllegalStateException` if there is none");
        refused("no change", Check.STATE, ChangeEdges::off, BootSlots::undo);
        refused("no change since restore", Check.STATE, () -> changed(0), BootSlots::undo);
        refused("all are undone", Check.STATE, ChangeEdges::allUndone, BootSlots::undo);
        refused("no text", Check.STATE, BootSlots::new, BootSlots::undo);
    }

    /**
     * Behind so many ticks: slot 0 crashes at 1 to 7, slot 1 hangs at 11 and 15, slot 2 is given up then;
     * an install ends at 20 in rescue, succeeds, and crashes each second tick from 22 on.
     */
    private static BootSlots eventful(int ticks) {
        BootSlots x = on(4, "4 9 3 0", "image 0 5 9 1", "mark 0 15 7", "image 1 5 9 0", "mark 1 14 2",
                "image 2 5 4 0 damaged", "mark 2 13 1");
        x.begin(3, 6, 1, 2, 20);
        if (ticks > 0) {
            x.tick(ticks);
        }
        return x;
    }

    private static void undoOfAll() {
        due("all that can happen", Check.counts(eventful(27)), "4 27 4 9 3 6 1 3 1 1 1 0 14 11 1 10 2 1 5 1");
        int[] from = {0, 5, 13, 17, 19, 23};
        for (int ticks : from) {
            isChange(54, "tick(40) behind " + ticks, () -> eventful(ticks), x -> x.tick(40));
            promise(62, "Restores what was saved in a slot to save in; it stays saved.");
            BootSlots x = eventful(ticks);
            String told = Check.all(x);
            x.save(1);
            x.tick(40);
            x.restore(1);
            due("all behind " + ticks, Check.all(x), told);
        }
    }

    private static BootSlots allUndone() {
        BootSlots x = changed(10);
        for (int i = 0; i < 8; i++) {
            x.undo();
        }
        return x;
    }

    private static void undoable() {
        promise(60, "Returns the number of changes that can be undone, 0 to 8.");
        due("no text", new BootSlots().undoable(), 0);
        due("no change", off().undoable(), 0);
        for (int changes : new int[] {0, 1, 7, 8, 9, 17, 100}) {
            due("of " + changes, changed(changes).undoable(), Math.min(changes, 8));
        }
        due("all are undone", allUndone().undoable(), 0);
        asks("undoable itself", Edge::busy, BootSlots::undoable, 4);
    }

    private static void save() {
        promise(61, "Saves all that is told of the machine (but the input buffer, parseError(), errorPosition(), what can be"
                + " undone and the text that was written) in a slot to save in, in place of what was saved there.");
        for (int slot = 0; slot < 2; slot++) {
            BootSlots x = busy();
            String told = Check.all(x);
            x.save(slot);
            x.cut();
            x.undo();
            x.writeBoots();
            String text = written(x);
            due("restore", x.restore(slot), 3);
            due("all of the machine is told again", Check.all(x), told);
            due("buffer, error, undo and text are not of it", x.buffered() + " " + x.parseError() + " " + x.errorPosition()
                    + " " + x.undoable() + " " + written(x), "20 1 8 0 " + text);
        }
        BootSlots place = off();
        place.save(0);
        place.tick(5);
        place.save(1);
        place.tick(5);
        place.save(0);
        due("in place of what was saved", place.restore(0), 10);
        due("the other one stays", place.restore(1), 5);
        promise(61, "- `slot`: 0 or 1");
        takes("0", ChangeEdges::off, x -> x.save(0));
        takes("1", ChangeEdges::off, x -> x.save(1));
        promise(61, "Returns the time.");
        due("0", off().save(0), 0);
        due("9999", at(9999).save(1), 9999);
        due("no change", unchangedBySave(), 4);
        needsText(61, "save", x -> x.save(0), x -> x.save(2), x -> x.save(-1));
        promise(61, NO_SLOT);
        for (int slot : new int[] {-1, 2, LEAST, GREATEST}) {
            refused("save(" + slot + ")", Check.INDEX, Edge::busy, x -> x.save(slot));
        }
    }

    private static int unchangedBySave() {
        BootSlots x = busy();
        x.save(0);
        return x.undoable();
    }

    private static void restore() {
        promise(62, "Restores what was saved in a slot to save in; it stays saved. Nothing can be undone afterwards.");
        BootSlots x = busy();
        for (int i = 0; i < 3; i++) {
            due("the state at 2", x.restore(1) + " " + x.count(1) + " " + x.count(7) + " " + x.install(0), "2 2 1 -1");
            due("nothing can be undone", x.undoable(), 0);
            x.tick(300);
        }
        due("buffer, error and text stay", x.buffered() + " " + x.parseError() + " " + x.errorPosition() + " " + written(x),
                "20 1 8 5:2/0! 7:9/0* 3:4/1 -");
        promise(62, "- `slot`: 0 or 1");
        promise(62, "Returns the time in the restored state.");
        BootSlots both = at(9999);
        both.save(1);
        both.restore(1);
        due("9999", both.restore(1), 9999);
        BootSlots first = off();
        first.save(0);
        first.tick(1);
        due("0", first.restore(0), 0);
        promise(62, NO_SLOT);
        for (int slot : new int[] {-1, 2, LEAST, GREATEST}) {
            refused("restore(" + slot + ")", Check.INDEX, Edge::busy, y -> y.restore(slot));
            refused("restore(" + slot + ") without a text", Check.INDEX, BootSlots::new, y -> y.restore(slot));
        }
        promise(62, "Throws `IllegalStateException` if nothing is saved there");
        refused("restore(0), 1 is saved", Check.STATE, Edge::busy, y -> y.restore(0));
        refused("restore(1), nothing is saved", Check.STATE, ChangeEdges::off, y -> y.restore(1));
        refused("restore(0) without a text", Check.STATE, BootSlots::new, y -> y.restore(0));
        refused("restore(1) behind load", Check.STATE, ChangeEdges::loadedAnew, y -> y.restore(1));
    }

    private static BootSlots loadedAnew() {
        BootSlots x = busy();
        x.load(20);
        return x;
    }
}
