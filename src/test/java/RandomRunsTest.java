import java.util.ArrayList;
import java.util.List;

/**
 * Long runs of calls, wrong ones among them, each held against the model; the numbers come from a
 * fixed sequence, so all runs are the same each time.
 */
public final class RandomRunsTest {
    private static final int RUNS = 400;
    private static final int CALLS = 120;

    private static long seed = 20261119L;

    private final List<Model> past = new ArrayList<>();
    private final Model[] saved = new Model[2];
    private final BootSlots x;
    private Model m;

    private RandomRunsTest() {
        m = randomModel();
        x = Check.of(textOf(m));
    }

    public static void main(String[] args) {
        for (int run = 0; run < RUNS; run++) {
            Check.promise(0, "any, in random run " + run);
            RandomRunsTest test = new RandomRunsTest();
            test.compareAll("loaded");
            for (int call = 0; call < CALLS; call++) {
                String what = test.change();
                if (call % 4 == 0) {
                    test.compareAll("call " + call + ", " + what);
                }
            }
            test.compareAll("at last");
        }
        Check.end();
    }

    private static int below(int bound) {
        seed = seed * 6364136223846793005L + 1442695040888963407L;
        return (int) ((seed >>> 33) % bound);
    }

    private static boolean oneOf(int n) {
        return below(n) == 0;
    }

    private static Model randomModel() {
        Model m = new Model();
        m.watch = oneOf(6) ? 1 + below(99) : 1 + below(15);
        m.limit = 1 + below(oneOf(3) ? 9 : 3);
        m.retry = below(8);
        m.floor = oneOf(3) ? below(10) : 0;
        int size = 1 + below(6);
        for (int s = 0; s < size; s++) {
            Model.Part p = new Model.Part();
            if (!oneOf(5)) {
                p = randomImage();
                p.unsigned = oneOf(8);
                p.damaged = oneOf(6);
                p.priority = oneOf(4) ? below(16) : oneOf(4) ? 15 : 1 + below(3);
                p.tries = below(8);
                p.good = oneOf(3);
            }
            m.parts.add(p);
        }
        return m;
    }

    private static Model.Part randomImage() {
        int start = oneOf(6) ? 1 + below(99) : 1 + below(12);
        int crash = oneOf(2) ? 0 : oneOf(3) ? Math.min(99, start + below(9)) : below(20);
        return Model.image(oneOf(5) ? below(100) : below(12), start, crash);
    }

    private static String textOf(Model m) {
        StringBuilder t = new StringBuilder("machine " + m.watch + " " + m.limit + " " + m.retry + " " + m.floor);
        for (int s = 0; s < m.parts.size(); s++) {
            t.append(";slot");
        }
        for (int s = 0; s < m.parts.size(); s++) {
            Model.Part p = m.parts.get(s);
            if (p.image) {
                t.append(";image " + s + " " + p.version + " " + p.start + " " + p.crash
                        + (p.unsigned ? " unsigned" : "") + (p.damaged ? " damaged" : ""));
                t.append(";mark " + s + " " + p.priority + " " + p.tries + (p.good ? " good" : ""));
            }
        }
        return t.toString();
    }

    // ---- changes

    private void remember() {
        past.add(m.copy());
        if (past.size() > 8) {
            past.remove(0);
        }
    }

    private String change() {
        int kind = below(22);
        int s = below(m.parts.size());
        if (kind < 7) {
            return tick();
        }
        if (kind < 11) {
            return powerOrBoot();
        }
        if (kind < 15) {
            return begin(s);
        }
        if (kind < 18) {
            return oneOf(2) ? spoil(s) : mark(s);
        }
        if (kind == 18) {
            return setNumber();
        }
        if (kind == 19) {
            return undo();
        }
        return kind == 20 ? save() : wrong();
    }

    private String tick() {
        int n = 1 + below(oneOf(8) ? 300 : 12);
        if (m.time + n > 9999) {
            Check.dueThrow("tick beyond 9999", Check.ARGUMENT, () -> x.tick(n));
            return "tick";
        }
        remember();
        int before = m.boots.size();
        m = m.in(n);
        Check.due("tick(" + n + ")", x.tick(n), m.boots.size() - before);
        return "tick " + n;
    }

    private String powerOrBoot() {
        if (m.state.equals("off")) {
            Check.dueThrow("cut", Check.ARGUMENT, x::cut);
            Check.dueThrow("reboot", Check.ARGUMENT, x::reboot);
            remember();
            m.boot(0);
            Check.due("power", x.power(), m.runs);
            return "power";
        }
        Check.dueThrow("power", Check.ARGUMENT, x::power);
        remember();
        if (oneOf(5)) {
            int lost = m.comingTo;
            m.cut();
            Check.due("cut", x.cut(), lost);
            return "cut";
        }
        m.boot(1);
        Check.due("reboot", x.reboot(), m.runs);
        return "reboot";
    }

    private String begin(int s) {
        Model.Part p = randomImage();
        int ticks = 1 + below(oneOf(4) ? 99 : 9);
        String what = "begin(" + s + ", " + p.version + ", " + p.start + ", " + p.crash + ", " + ticks + ")";
        if (m.state.equals("off") || m.runs == s || m.coming != null) {
            Check.dueThrow(what, Check.ARGUMENT, () -> x.begin(s, p.version, p.start, p.crash, ticks));
            return what;
        }
        remember();
        m.parts.get(s).clear();
        m.coming = p;
        m.comingTo = s;
        m.left = ticks;
        Check.due(what, x.begin(s, p.version, p.start, p.crash, ticks), m.time + ticks);
        return what;
    }

    private String spoil(int s) {
        int how = below(3);
        boolean comes = m.coming != null && m.comingTo == s;
        if (!comes && !m.parts.get(s).image) {
            Check.dueThrow("spoil", Check.ARGUMENT, () -> x.spoil(s, how));
            return "spoil";
        }
        remember();
        Model.Part p = comes ? m.coming : m.parts.get(s);
        if (how == 0 || how == 2) {
            p.unsigned = true;
        }
        if (how == 1 || how == 2) {
            p.damaged = true;
        }
        Check.due("spoil(" + s + ", " + how + ")", x.spoil(s, how), (p.unsigned ? 1 : 0) + (p.damaged ? 2 : 0));
        return "spoil";
    }

    private String mark(int s) {
        int priority = oneOf(3) ? below(16) : below(4);
        int tries = below(8);
        Model.Part p = m.parts.get(s);
        if (!p.image) {
            Check.dueThrow("mark", Check.ARGUMENT, () -> x.mark(s, priority, tries));
            return "mark";
        }
        remember();
        p = m.parts.get(s);
        Check.due("mark", x.mark(s, priority, tries), p.priority);
        p.priority = priority;
        p.tries = tries;
        return "mark";
    }

    private String setNumber() {
        int what = 2 + below(4);
        int value = below(what == 5 ? 12 : 20);
        int least = what == 5 ? m.floor : what == 4 ? 0 : 1;
        int most = what == 3 ? 9 : what == 4 ? 7 : 99;
        if (value < least || value > most) {
            Check.dueThrow("setNumber", Check.ARGUMENT, () -> x.setNumber(what, value));
            return "setNumber";
        }
        remember();
        int[] before = {m.watch, m.limit, m.retry, m.floor};
        Check.due("setNumber(" + what + ", " + value + ")", x.setNumber(what, value), before[what - 2]);
        m.watch = what == 2 ? value : m.watch;
        m.limit = what == 3 ? value : m.limit;
        m.retry = what == 4 ? value : m.retry;
        m.floor = what == 5 ? value : m.floor;
        return "setNumber";
    }

    private String undo() {
        if (past.isEmpty()) {
            Check.dueThrow("undo", Check.STATE, x::undo);
            return "undo";
        }
        m = past.remove(past.size() - 1);
        Check.due("undo", x.undo(), past.size());
        return "undo";
    }

    private String save() {
        int slot = below(2);
        if (oneOf(3) && saved[slot] != null) {
            m = saved[slot].copy();
            past.clear();
            Check.due("restore(" + slot + ")", x.restore(slot), m.time);
            return "restore";
        }
        saved[slot] = m.copy();
        Check.due("save(" + slot + ")", x.save(slot), m.time);
        return "save";
    }

    private String wrong() {
        int size = m.parts.size();
        Check.dueThrow("tick(0)", Check.ARGUMENT, () -> x.tick(0));
        Check.dueThrow("begin", Check.INDEX, () -> x.begin(size, 0, 0, 0, 0));
        Check.dueThrow("begin", Check.ARGUMENT, () -> x.begin(0, 0, 0, 0, 0));
        Check.dueThrow("spoil", Check.INDEX, () -> x.spoil(-1, 9));
        Check.dueThrow("mark", Check.ARGUMENT, () -> x.mark(0, 1, 9));
        Check.dueThrow("load", Check.ARGUMENT, () -> x.load(0));
        Check.dueThrow("load", Check.INDEX, () -> x.load(1));
        return "wrong calls";
    }

    // ---- what is told

    private void compareAll(String where) {
        Check.due(where + ": counts", Check.counts(x), counts());
        Check.due(where + ": machine", Check.machine(x), textOf(m));
        Check.due(where + ": boots", Check.boots(x), boots());
        Check.due(where + ": undoable", x.undoable(), past.size());
        compareInstall(where);
        compareFound(where);
        compareAhead(where);
        compareOtherwise(where);
        for (int s = 0; s < m.parts.size(); s++) {
            compareSlot(where + ", slot " + s, s);
        }
        float share = m.tries == 0 ? 0.0f : (float) m.successes / (float) m.tries;
        Check.due(where + ": successShare", x.successShare(), share);
        double mean = m.boots.isEmpty() ? 0.0 : (double) m.time / (double) m.boots.size();
        Check.due(where + ": meanBoot", x.meanBoot(), mean);
    }

    private String counts() {
        int good = 0;
        int tries = 0;
        for (Model.Part p : m.parts) {
            good += p.good ? 1 : 0;
            tries += p.tries;
        }
        int[] all = {m.parts.size(), m.time, m.watch, m.limit, m.retry, m.floor, state(m), m.runs, m.age,
            m.order().size(), good, tries, m.boots.size(), m.tries, m.givenUp, m.crashes, m.hangs, m.successes,
            m.rescueTicks, m.installs};
        StringBuilder told = new StringBuilder();
        for (int i = 0; i < all.length; i++) {
            told.append(i == 0 ? "" : " ").append(all[i]);
        }
        return told.toString();
    }

    private static int state(Model m) {
        return m.state.equals("off") ? 0 : m.state.equals("runs") ? 1 : 2;
    }

    private String boots() {
        StringBuilder told = new StringBuilder();
        for (int i = Math.max(0, m.boots.size() - 12); i < m.boots.size(); i++) {
            int[] b = m.boots.get(i);
            told.append(told.length() == 0 ? "" : " ").append(b[0]).append("prchi".charAt(b[1]))
                    .append(b[3] < 0 ? "r" : "" + b[3]);
        }
        return told.length() == 0 ? "-" : told.toString();
    }

    private void compareInstall(String where) {
        boolean on = m.coming != null;
        Check.due(where + ": install(0)", x.install(0), on ? m.comingTo : -1);
        Check.due(where + ": install(1)", x.install(1), on ? m.left : -1);
        Check.due(where + ": install(2)", x.install(2), on ? m.coming.version : -1);
        Check.due(where + ": install(3)", x.install(3), on ? 3 : -1);
        for (int ago = 0; ago < 14; ago++) {
            int i = m.boots.size() - 1 - ago;
            for (int what = 0; what < 4; what++) {
                int want = ago < 12 && i >= 0 ? m.boots.get(i)[what] : -2;
                Check.due(where + ": boot(" + ago + ", " + what + ")", x.boot(ago, what), want);
            }
        }
    }

    private void compareFound(String where) {
        List<Integer> order = m.order();
        Check.due(where + ": choice", x.choice(), order.isEmpty() ? -1 : order.get(0));
        int newest = -1;
        int weakest = -1;
        int sinking = 0;
        int most = 0;
        int highest = -1;
        for (int s = 0; s < m.parts.size(); s++) {
            Model.Part p = m.parts.get(s);
            if (p.image && (newest < 0 || p.version > m.parts.get(newest).version)) {
                newest = s;
            }
            if (m.bootable(s) && !p.good && (weakest < 0 || p.tries < m.parts.get(weakest).tries)) {
                weakest = s;
            }
            sinking += p.image && p.version < m.floor ? 1 << s : 0;
            most += m.bootable(s) ? p.tries : 0;
            for (int f = 99; f > highest; f--) {
                Model other = m.copy();
                other.floor = f;
                highest = other.bootable(s) ? f : highest;
            }
        }
        Check.due(where + ": newest", x.newest(), newest);
        Check.due(where + ": weakest", x.weakest(), weakest);
        Check.due(where + ": sinking", x.sinking(), sinking);
        Check.due(where + ": mostBoots", x.mostBoots(), most);
        Check.due(where + ": highestFloor", x.highestFloor(), highest);
        Check.due(where + ": spare", x.spare(), spare(order));
        order.remove((Integer) m.runs);
        Check.due(where + ": fallback", x.fallback(), m.runs < 0 || order.isEmpty() ? -1 : order.get(0));
    }

    private int spare(List<Integer> order) {
        List<Integer> free = new ArrayList<>();
        for (int s = 0; s < m.parts.size(); s++) {
            if (s != m.runs && (m.coming == null || s != m.comingTo)) {
                free.add(s);
            }
        }
        for (int s : free) {
            if (!m.parts.get(s).image) {
                return s;
            }
        }
        for (int s : free) {
            if (!order.contains(s)) {
                return s;
            }
        }
        for (int i = order.size() - 1; i >= 0; i--) {
            if (free.contains(order.get(i))) {
                return order.get(i);
            }
        }
        return -1;
    }

    private void compareAhead(String where) {
        int n = oneOf(4) ? below(301) : below(30);
        int s = below(m.parts.size());
        Model then = m.in(n);
        String in = ", in " + n;
        Check.due(where + ": stateIn" + in, x.stateIn(n), state(then));
        Check.due(where + ": slotIn" + in, x.slotIn(n), then.runs);
        Check.due(where + ": floorIn" + in, x.floorIn(n), then.floor);
        Check.due(where + ": bootsIn" + in, x.bootsIn(n), then.boots.size() - m.boots.size());
        Check.due(where + ": runsIn" + in, x.runsIn(s, n), then.parts.get(s).runs - m.parts.get(s).runs);
        Check.due(where + ": crashesIn" + in, x.crashesIn(n), then.crashes - m.crashes);
        Check.due(where + ": triesIn" + in, x.triesIn(s, n), then.parts.get(s).tries);
        Check.due(where + ": newerIn", x.newerIn(), m.newerIn());
        Check.due(where + ": rescueIn", x.rescueIn(), m.rescueIn());
        Check.due(where + ": calmIn", x.calmIn(), m.calmIn());
    }

    private void compareOtherwise(String where) {
        Model booted = m.booted();
        Check.due(where + ": ifBooted", x.ifBooted(), booted.runs);
        Check.due(where + ": givenUpIf", x.givenUpIf(), booted.boots.get(booted.boots.size() - 1)[2]);
        Check.due(where + ": settlesOn", x.settlesOn(), booted.in(300).runs);
        Check.due(where + ": keySlot", x.keySlot(), m.keySlot());
        int s = below(m.parts.size());
        int version = below(100);
        int start = oneOf(3) ? 1 + below(99) : 1 + below(12);
        Check.due(where + ": ifInstalled", x.ifInstalled(s, version, start), m.ifInstalled(s, version, start));
        Check.due(where + ": settlesWithout", x.settlesWithout(s), m.settlesWithout(s));
        Check.due(where + ": triesFor", x.triesFor(s), m.triesFor(s));
        if (oneOf(3)) {
            Check.due(where + ": bestWatch", x.bestWatch(s), m.bestWatch(s));
        }
    }

    private void compareSlot(String where, int s) {
        Model.Part p = m.parts.get(s);
        int[] props = {p.image ? 1 : 0, p.priority, p.tries, p.good ? 1 : 0, p.faults, m.bootable(s) ? 1 : 0, p.runs,
            p.tried, p.successes};
        for (int what = 0; what < 9; what++) {
            Check.due(where + " " + what, x.slot(s, what), props[what]);
        }
        int[] image = {p.version, p.start, p.crash, p.unsigned ? 1 : 0, p.damaged ? 1 : 0};
        for (int what = 0; what < 5; what++) {
            Check.due(where + " image " + what, x.image(s, what), p.image ? image[what] : -1);
        }
        Check.due(where + " place", x.place(s), m.order().indexOf(s));
        boolean none = !p.image;
        int why = none ? 1 : p.unsigned ? 2 : p.version < m.floor ? 3 : p.priority == 0 ? 4 : p.good || p.tries > 0 ? 0 : 5;
        Check.due(where + " whyNot", x.whyNot(s), why);
        boolean holds = p.image && (p.crash == 0 || p.crash > p.start) && (p.good || p.start <= m.watch);
        Check.due(where + " mayHold", x.mayHold(s), holds);
        Check.due(where + " goodIn", x.goodIn(s), m.goodIn(s));
        int twins = 0;
        int least = none ? 0 : p.version;
        int boots = 0;
        for (int i = 0; i < m.parts.size(); i++) {
            Model.Part q = m.parts.get(i);
            twins += i != s && p.image && q.image && p.version == q.version ? 1 << i : 0;
            least = q.good ? Math.min(least, q.version) : least;
        }
        for (int i = Math.max(0, m.boots.size() - 12); i < m.boots.size(); i++) {
            boots += m.boots.get(i)[3] == s ? 1 : 0;
        }
        Check.due(where + " twins", x.twins(s), twins);
        Check.due(where + " floorWith", x.floorWith(s), none ? m.floor : Math.max(m.floor, least));
        Check.due(where + " bootsOf", x.bootsOf(s), boots);
    }
}
