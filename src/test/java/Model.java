import java.util.ArrayList;
import java.util.List;

/**
 * The machine once more, written the long way from sections 1 to 4 of the document: each tick is
 * passed, slots are sorted, states are copied whole. RandomRunsTest holds BootSlots against it.
 */
final class Model {
    static final class Part {
        boolean image;
        int version;
        int start;
        int crash;
        boolean unsigned;
        boolean damaged;
        int priority;
        int tries;
        boolean good;
        int faults;
        int runs;
        int tried;
        int successes;

        Part copy() {
            Part p = new Part();
            p.image = image;
            p.version = version;
            p.start = start;
            p.crash = crash;
            p.unsigned = unsigned;
            p.damaged = damaged;
            p.priority = priority;
            p.tries = tries;
            p.good = good;
            p.faults = faults;
            p.runs = runs;
            p.tried = tried;
            p.successes = successes;
            return p;
        }

        void clear() {
            image = false;
            version = 0;
            start = 0;
            crash = 0;
            unsigned = false;
            damaged = false;
            priority = 0;
            tries = 0;
            good = false;
            faults = 0;
        }
    }

    final List<Part> parts = new ArrayList<>();
    final List<int[]> boots = new ArrayList<>();
    int watch;
    int limit;
    int retry;
    int floor;
    int time;
    String state = "off";
    int runs = -1;
    int age;
    Part coming;
    int comingTo = -1;
    int left;
    int tries;
    int givenUp;
    int crashes;
    int hangs;
    int successes;
    int rescueTicks;
    int installs;

    Model copy() {
        Model m = new Model();
        for (Part p : parts) {
            m.parts.add(p.copy());
        }
        m.boots.addAll(boots);
        m.watch = watch;
        m.limit = limit;
        m.retry = retry;
        m.floor = floor;
        m.time = time;
        m.state = state;
        m.runs = runs;
        m.age = age;
        m.coming = coming == null ? null : coming.copy();
        m.comingTo = comingTo;
        m.left = left;
        m.tries = tries;
        m.givenUp = givenUp;
        m.crashes = crashes;
        m.hangs = hangs;
        m.successes = successes;
        m.rescueTicks = rescueTicks;
        m.installs = installs;
        return m;
    }

    boolean bootable(int s) {
        Part p = parts.get(s);
        if (!p.image || p.unsigned || p.version < floor || p.priority <= 0) {
            return false;
        }
        return p.good || p.tries > 0;
    }

    /** The slots that can be booted, as the loader would take them. */
    List<Integer> order() {
        List<Integer> order = new ArrayList<>();
        for (int s = 0; s < parts.size(); s++) {
            if (bootable(s)) {
                order.add(s);
            }
        }
        order.sort((a, b) -> rank(b) - rank(a));
        return order;
    }

    private int rank(int s) {
        Part p = parts.get(s);
        return ((p.priority * 2 + (p.good ? 1 : 0)) * 100 + p.version) * 10 + 9 - s;
    }

    void boot(int cause) {
        int set = 0;
        state = "rescue";
        runs = -1;
        age = 0;
        while (!order().isEmpty()) {
            int s = order().get(0);
            Part p = parts.get(s);
            if (!p.good) {
                p.tries -= 1;
                p.tried += 1;
                tries += 1;
            }
            if (!p.damaged) {
                state = "runs";
                runs = s;
                p.runs += 1;
                break;
            }
            p.priority = 0;
            p.good = false;
            set += 1 << s;
            givenUp += 1;
        }
        boots.add(new int[] {time, cause, set, runs});
    }

    void tick() {
        if (state.equals("rescue")) {
            rescueTicks += 1;
        }
        time += 1;
        if (state.equals("runs")) {
            age += 1;
            tickOf(parts.get(runs));
        }
        if (!state.equals("off") && coming != null) {
            left -= 1;
            if (left == 0) {
                Part image = coming;
                int s = comingTo;
                coming = null;
                comingTo = -1;
                installs += 1;
                come(s, image);
                if (state.equals("rescue")) {
                    boot(4);
                }
            }
        }
    }

    private void tickOf(Part p) {
        if (age == p.crash) {
            crashes += 1;
            p.faults += 1;
            if (p.good && p.faults >= limit) {
                p.good = false;
                p.tries = retry;
                p.faults = 0;
            }
            boot(2);
        } else if (age == p.start) {
            if (!p.good) {
                p.good = true;
                p.tries = 0;
                p.successes += 1;
                successes += 1;
            }
            p.faults = 0;
            int least = 1000;
            for (Part q : parts) {
                if (q.good && q.version < least) {
                    least = q.version;
                }
            }
            if (least > floor) {
                floor = least;
            }
        } else if (age == watch && !p.good) {
            hangs += 1;
            boot(3);
        }
    }

    void come(int s, Part image) {
        int greatest = greatestBut(s);
        if (greatest == 15) {
            for (int i = 0; i < parts.size(); i++) {
                if (i != s && parts.get(i).priority > 1) {
                    parts.get(i).priority -= 1;
                }
            }
            greatest = greatestBut(s);
        }
        Part p = parts.get(s);
        p.image = true;
        p.version = image.version;
        p.start = image.start;
        p.crash = image.crash;
        p.unsigned = image.unsigned;
        p.damaged = image.damaged;
        p.priority = greatest + 1;
        p.tries = 3;
        p.good = false;
        p.faults = 0;
    }

    private int greatestBut(int s) {
        int greatest = 0;
        for (int i = 0; i < parts.size(); i++) {
            if (i != s && parts.get(i).priority > greatest) {
                greatest = parts.get(i).priority;
            }
        }
        return greatest;
    }

    static Part image(int version, int start, int crash) {
        Part p = new Part();
        p.image = true;
        p.version = version;
        p.start = start;
        p.crash = crash;
        return p;
    }

    void cut() {
        state = "off";
        runs = -1;
        age = 0;
        coming = null;
        comingTo = -1;
        left = 0;
    }

    Model in(int ticks) {
        Model m = copy();
        for (int i = 0; i < ticks; i++) {
            m.tick();
        }
        return m;
    }

    Model booted() {
        Model m = copy();
        m.boot(1);
        return m;
    }

    int rescueIn() {
        Model m = copy();
        for (int t = 0; t <= 300; t++) {
            if (m.state.equals("rescue")) {
                return t;
            }
            m.tick();
        }
        return -1;
    }

    int goodIn(int s) {
        Model m = copy();
        for (int t = 0; t <= 300; t++) {
            if (m.parts.get(s).good) {
                return t;
            }
            m.tick();
        }
        return -1;
    }

    int newerIn() {
        if (!state.equals("runs")) {
            return -1;
        }
        Model m = copy();
        for (int t = 1; t <= 300; t++) {
            m.tick();
            if (m.state.equals("runs") && m.parts.get(m.runs).version > parts.get(runs).version) {
                return t;
            }
        }
        return -1;
    }

    int calmIn() {
        Model m = copy();
        int last = 0;
        for (int t = 1; t <= 300; t++) {
            int before = m.boots.size();
            m.tick();
            if (m.boots.size() > before) {
                last = t;
            }
        }
        return last;
    }

    int triesFor(int s) {
        if (!parts.get(s).image) {
            return -1;
        }
        for (int k = 0; k <= 7; k++) {
            Model m = copy();
            m.parts.get(s).tries = k;
            if (m.booted().goodIn(s) >= 0) {
                return k;
            }
        }
        return -1;
    }

    int bestWatch(int s) {
        if (!parts.get(s).image) {
            return -1;
        }
        for (int w = 1; w <= 99; w++) {
            Model m = copy();
            m.watch = w;
            if (m.booted().goodIn(s) >= 0) {
                return w;
            }
        }
        return -1;
    }

    int keySlot() {
        int key = -1;
        int soonest = 1000;
        for (int s = 0; s < parts.size(); s++) {
            if (bootable(s)) {
                Model m = copy();
                m.parts.get(s).clear();
                int t = m.booted().rescueIn();
                if (t >= 0 && t < soonest) {
                    soonest = t;
                    key = s;
                }
            }
        }
        return key;
    }

    int settlesWithout(int s) {
        Model m = copy();
        m.parts.get(s).clear();
        m.coming = null;
        return m.booted().in(300).runs;
    }

    int ifInstalled(int s, int version, int start) {
        Model m = copy();
        m.coming = null;
        m.come(s, image(version, start, 0));
        return m.booted().in(300).runs;
    }
}
