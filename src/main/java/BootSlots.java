/** A boot loader that chooses among images; ../shared/DOC.md says what each call does. */
public final class BootSlots {
    public static final int NONE = -1;

    private static final int NO_SUCH_BOOT = -2;
    private static final int TEXT_SIZE = 600;
    private static final int APPENDED_BYTES = 20;
    private static final int MAX_SLOTS = 6;
    private static final int KEPT_BOOTS = 12;
    private static final int KEPT_CHANGES = 8;
    private static final int SAVES = 2;
    private static final int HORIZON = 300;
    private static final int LAST_TIME = 9999;
    private static final int INSTALL_TRIES = 3;
    private static final int MAX_TRIES = 7;
    private static final int MAX_PRIORITY = 15;
    private static final int MAX_NUMBER = 99;
    private static final int MAX_LIMIT = 9;

    private static final int STATE_OFF = 0;
    private static final int STATE_RUNS = 1;
    private static final int STATE_RESCUE = 2;

    private static final int BY_POWER = 0;
    private static final int BY_HAND = 1;
    private static final int BY_CRASH = 2;
    private static final int BY_HANG = 3;
    private static final int BY_INSTALL = 4;
    private static final String CAUSE_LETTERS = "prchi";

    private static final int WATCH = 2;
    private static final int LIMIT = 3;
    private static final int RETRY = 4;
    private static final int FLOOR = 5;

    private final Parser parser = new Parser();
    private final Machine machine = new Machine();
    private final Machine trial = new Machine();
    private final Machine[] past = new Machine[KEPT_CHANGES];
    private final Machine[] saved = new Machine[SAVES];
    private final boolean[] isSaved = new boolean[SAVES];
    private final Text text = new Text();
    private boolean loaded;
    private int nextPast;
    private int changesKept;

    public BootSlots() {
        for (int i = 0; i < KEPT_CHANGES; i++) {
            past[i] = new Machine();
        }
        for (int i = 0; i < SAVES; i++) {
            saved[i] = new Machine();
        }
    }

    // ---- input

    public int append(int a, int b, int c, int d, int e) {
        if (parser.filled + APPENDED_BYTES > TEXT_SIZE) {
            return NONE;
        }
        parser.addFour(a);
        parser.addFour(b);
        parser.addFour(c);
        parser.addFour(d);
        parser.addFour(e);
        return parser.filled;
    }

    public int load(int n) throws IndexOutOfBoundsException, IllegalArgumentException {
        if (n < 0 || n > parser.filled) {
            throw new IndexOutOfBoundsException();
        }
        parser.parse(n, trial);
        if (parser.error != 0) {
            throw new IllegalArgumentException();
        }
        machine.copyFrom(trial);
        loaded = true;
        forgetChanges();
        for (int i = 0; i < SAVES; i++) {
            isSaved[i] = false;
        }
        return machine.size;
    }

    public int parseError() {
        return parser.error;
    }

    public int errorPosition() {
        return parser.errorStart;
    }

    public int buffered() {
        return parser.filled;
    }

    // ---- the machine as it is

    public int count(int what) throws IllegalStateException, IllegalArgumentException {
        requireLoaded();
        switch (what) {
            case 0: return machine.size;
            case 1: return machine.time;
            case WATCH: return machine.watch;
            case LIMIT: return machine.limit;
            case RETRY: return machine.retry;
            case FLOOR: return machine.floor;
            case 6: return machine.state();
            case 7: return machine.running;
            case 8: return machine.age;
            case 9: return machine.bootableSlots();
            case 10: return machine.goodSlots();
            case 11: return machine.allTries();
            case 12: return machine.log.total;
            case 13: return machine.tally.tried;
            case 14: return machine.tally.givenUp;
            case 15: return machine.tally.crashes;
            case 16: return machine.tally.hangs;
            case 17: return machine.tally.successes;
            case 18: return machine.tally.rescueTicks;
            case 19: return machine.tally.installs;
            default: throw new IllegalArgumentException();
        }
    }

    public int slot(int s, int what)
            throws IllegalStateException, IndexOutOfBoundsException, IllegalArgumentException {
        requireSlot(s);
        Slot told = machine.slots[s];
        switch (what) {
            case 0: return bit(told.image.present);
            case 1: return told.priority;
            case 2: return told.tries;
            case 3: return bit(told.good);
            case 4: return told.faults;
            case 5: return bit(machine.isBootable(told));
            case 6: return told.runs;
            case 7: return told.tried;
            case 8: return told.successes;
            default: throw new IllegalArgumentException();
        }
    }

    public int image(int s, int what)
            throws IllegalStateException, IndexOutOfBoundsException, IllegalArgumentException {
        requireSlot(s);
        requireWithin(what, 0, 4);
        Image told = machine.slots[s].image;
        if (!told.present) {
            return NONE;
        }
        switch (what) {
            case 0: return told.version;
            case 1: return told.start;
            case 2: return told.crash;
            case 3: return bit(told.unsigned);
            default: return bit(told.damaged);
        }
    }

    public int install(int what) throws IllegalStateException, IllegalArgumentException {
        requireLoaded();
        requireWithin(what, 0, 3);
        Install told = machine.pending;
        if (!told.isOn()) {
            return NONE;
        }
        switch (what) {
            case 0: return told.target;
            case 1: return told.ticksLeft;
            case 2: return told.image.version;
            default: return told.tries;
        }
    }

    public int boot(int ago, int what) throws IllegalStateException, IllegalArgumentException {
        requireLoaded();
        requireWithin(what, 0, 3);
        int row = machine.log.rowOf(ago);
        if (row < 0 || row >= KEPT_BOOTS) {
            return NO_SUCH_BOOT;
        }
        switch (what) {
            case 0: return machine.log.times[row];
            case 1: return machine.log.causes[row];
            case 2: return machine.log.givenUp[row];
            default: return machine.log.ran[row];
        }
    }

    // ---- what is found

    public int whyNot(int s) throws IllegalStateException, IndexOutOfBoundsException {
        requireSlot(s);
        return machine.obstacle(machine.slots[s]);
    }

    public int choice() throws IllegalStateException {
        requireLoaded();
        return machine.firstBut(NONE);
    }

    public int place(int s) throws IllegalStateException, IndexOutOfBoundsException {
        requireSlot(s);
        Slot asked = machine.slots[s];
        if (!machine.isBootable(asked)) {
            return NONE;
        }
        int preferred = 0;
        for (int i = 0; i < MAX_SLOTS; i++) {
            Slot other = machine.slots[i];
            if (machine.isBootable(other) && other.isAheadOf(asked)) {
                preferred++;
            }
        }
        return preferred;
    }

    public int newest() throws IllegalStateException {
        requireLoaded();
        int found = NONE;
        int greatest = NONE;
        for (int i = 0; i < MAX_SLOTS; i++) {
            Image image = machine.slots[i].image;
            if (image.present && image.version > greatest) {
                found = i;
                greatest = image.version;
            }
        }
        return found;
    }

    public int spare() throws IllegalStateException {
        requireLoaded();
        int found = NONE;
        for (int i = 0; i < MAX_SLOTS && i < machine.size; i++) {
            boolean free = i != machine.running && i != machine.pending.target;
            if (free && (found < 0 || hurtsLess(machine.slots[i], machine.slots[found]))) {
                found = i;
            }
        }
        return found;
    }

    private boolean hurtsLess(Slot a, Slot b) {
        int harmOfA = harm(a);
        int harmOfB = harm(b);
        if (harmOfA != harmOfB) {
            return harmOfA < harmOfB;
        }
        return harmOfA == 2 && b.isAheadOf(a);
    }

    private int harm(Slot s) {
        if (!s.image.present) {
            return 0;
        }
        return machine.isBootable(s) ? 2 : 1;
    }

    public int fallback() throws IllegalStateException {
        requireLoaded();
        return machine.isRunning() ? machine.firstBut(machine.running) : NONE;
    }

    public int weakest() throws IllegalStateException {
        requireLoaded();
        int found = NONE;
        int fewest = MAX_TRIES + 1;
        for (int i = 0; i < MAX_SLOTS; i++) {
            Slot s = machine.slots[i];
            if (machine.isBootable(s) && !s.good && s.tries < fewest) {
                found = i;
                fewest = s.tries;
            }
        }
        return found;
    }

    public int twins(int s) throws IllegalStateException, IndexOutOfBoundsException {
        requireSlot(s);
        Image asked = machine.slots[s].image;
        int set = 0;
        for (int i = 0; i < MAX_SLOTS; i++) {
            Image other = machine.slots[i].image;
            if (i != s && asked.present && other.present && other.version == asked.version) {
                set |= 1 << i;
            }
        }
        return set;
    }

    public int sinking() throws IllegalStateException {
        requireLoaded();
        int set = 0;
        for (int i = 0; i < MAX_SLOTS; i++) {
            Image image = machine.slots[i].image;
            if (image.present && image.version < machine.floor) {
                set |= 1 << i;
            }
        }
        return set;
    }

    public int floorWith(int s) throws IllegalStateException, IndexOutOfBoundsException {
        requireSlot(s);
        if (!machine.slots[s].image.present) {
            return machine.floor;
        }
        return machine.floorByGoodAnd(s);
    }

    public boolean mayHold(int s) throws IllegalStateException, IndexOutOfBoundsException {
        requireSlot(s);
        Slot asked = machine.slots[s];
        Image image = asked.image;
        boolean lasts = image.crash == 0 || image.crash > image.start;
        return image.present && lasts && (asked.good || image.start <= machine.watch);
    }

    public int mostBoots() throws IllegalStateException {
        requireLoaded();
        int sum = 0;
        for (int i = 0; i < MAX_SLOTS; i++) {
            if (machine.isBootable(machine.slots[i])) {
                sum += machine.slots[i].tries;
            }
        }
        return sum;
    }

    public int bootsOf(int s) throws IllegalStateException, IndexOutOfBoundsException {
        requireSlot(s);
        int found = 0;
        for (int row = 0; row < machine.log.kept(); row++) {
            if (machine.log.ran[row] == s) {
                found++;
            }
        }
        return found;
    }

    // ---- what will be if only ticks pass

    public int stateIn(int ticks) throws IllegalStateException, IllegalArgumentException {
        lookAhead(ticks);
        return trial.state();
    }

    public int slotIn(int ticks) throws IllegalStateException, IllegalArgumentException {
        lookAhead(ticks);
        return trial.running;
    }

    public int floorIn(int ticks) throws IllegalStateException, IllegalArgumentException {
        lookAhead(ticks);
        return trial.floor;
    }

    public int bootsIn(int ticks) throws IllegalStateException, IllegalArgumentException {
        lookAhead(ticks);
        return trial.log.total - machine.log.total;
    }

    public int runsIn(int s, int ticks)
            throws IllegalStateException, IndexOutOfBoundsException, IllegalArgumentException {
        requireSlot(s);
        lookAhead(ticks);
        return trial.slots[s].runs - machine.slots[s].runs;
    }

    public int crashesIn(int ticks) throws IllegalStateException, IllegalArgumentException {
        lookAhead(ticks);
        return trial.tally.crashes - machine.tally.crashes;
    }

    public int newerIn() throws IllegalStateException {
        requireLoaded();
        if (!machine.isRunning()) {
            return NONE;
        }
        int now = machine.runningVersion();
        trial.copyFrom(machine);
        for (int ticks = 1; ticks <= HORIZON && !trial.isSettled(); ticks++) {
            trial.passTick();
            if (trial.runningVersion() > now) {
                return ticks;
            }
        }
        return NONE;
    }

    public int rescueIn() throws IllegalStateException {
        requireLoaded();
        trial.copyFrom(machine);
        return trial.ticksToRescue();
    }

    public int goodIn(int s) throws IllegalStateException, IndexOutOfBoundsException {
        requireSlot(s);
        trial.copyFrom(machine);
        return trial.ticksToGood(trial.slots[s]);
    }

    public int calmIn() throws IllegalStateException {
        requireLoaded();
        trial.copyFrom(machine);
        int last = 0;
        for (int ticks = 1; ticks <= HORIZON && !trial.isSettled(); ticks++) {
            int before = trial.log.total;
            trial.passTick();
            if (trial.log.total != before) {
                last = ticks;
            }
        }
        return last;
    }

    public int triesIn(int s, int ticks)
            throws IllegalStateException, IndexOutOfBoundsException, IllegalArgumentException {
        requireSlot(s);
        lookAhead(ticks);
        return trial.slots[s].tries;
    }

    private void lookAhead(int ticks) {
        requireLoaded();
        requireWithin(ticks, 0, HORIZON);
        trial.copyFrom(machine);
        trial.settle(ticks);
    }

    // ---- what would be otherwise

    public int ifBooted() throws IllegalStateException {
        requireLoaded();
        trial.copyFrom(machine);
        trial.bootBy(BY_HAND);
        return trial.running;
    }

    public int givenUpIf() throws IllegalStateException {
        requireLoaded();
        trial.copyFrom(machine);
        return trial.bootBy(BY_HAND);
    }

    public int settlesOn() throws IllegalStateException {
        requireLoaded();
        trial.copyFrom(machine);
        return bootAndSettle();
    }

    public int settlesWithout(int s) throws IllegalStateException, IndexOutOfBoundsException {
        requireSlot(s);
        trial.copyFrom(machine);
        trial.pending.stop();
        trial.slots[s].makeEmpty();
        return bootAndSettle();
    }

    public int ifInstalled(int s, int version, int start)
            throws IllegalStateException, IndexOutOfBoundsException, IllegalArgumentException {
        requireSlot(s);
        requireWithin(version, 0, MAX_NUMBER);
        requireWithin(start, 1, MAX_NUMBER);
        trial.copyFrom(machine);
        trial.pending.set(s, 1);
        trial.pending.image.set(version, start, 0);
        trial.takeInstall();
        return bootAndSettle();
    }

    private int bootAndSettle() {
        trial.bootBy(BY_HAND);
        trial.settle(HORIZON);
        return trial.running;
    }

    public int triesFor(int s) throws IllegalStateException, IndexOutOfBoundsException {
        requireSlot(s);
        if (!machine.slots[s].image.present) {
            return NONE;
        }
        for (int tries = 0; tries <= MAX_TRIES; tries++) {
            trial.copyFrom(machine);
            trial.slots[s].tries = tries;
            trial.bootBy(BY_HAND);
            if (trial.ticksToGood(trial.slots[s]) >= 0) {
                return tries;
            }
        }
        return NONE;
    }

    public int bestWatch(int s) throws IllegalStateException, IndexOutOfBoundsException {
        requireSlot(s);
        if (!machine.slots[s].image.present) {
            return NONE;
        }
        for (int watch = 1; watch <= MAX_NUMBER; watch++) {
            trial.copyFrom(machine);
            trial.watch = watch;
            trial.bootBy(BY_HAND);
            if (trial.ticksToGood(trial.slots[s]) >= 0) {
                return watch;
            }
        }
        return NONE;
    }

    public int highestFloor() throws IllegalStateException {
        requireLoaded();
        int highest = NONE;
        for (int i = 0; i < MAX_SLOTS; i++) {
            Slot s = machine.slots[i];
            if (s.isBootableFrom(0) && s.image.version > highest) {
                highest = s.image.version;
            }
        }
        return highest;
    }

    public int keySlot() throws IllegalStateException {
        requireLoaded();
        int key = NONE;
        int soonest = HORIZON + 1;
        for (int i = 0; i < MAX_SLOTS; i++) {
            int ticks = machine.isBootable(machine.slots[i]) ? rescueWithout(i) : NONE;
            if (ticks >= 0 && ticks < soonest) {
                key = i;
                soonest = ticks;
            }
        }
        return key;
    }

    private int rescueWithout(int s) {
        if (s < 0 || s >= MAX_SLOTS) {
            return NONE;
        }
        trial.copyFrom(machine);
        trial.slots[s].makeEmpty();
        trial.bootBy(BY_HAND);
        return trial.ticksToRescue();
    }

    // ---- floats

    public float successShare() throws IllegalStateException {
        requireLoaded();
        if (machine.tally.tried == 0) {
            return 0.0f;
        }
        return (float) machine.tally.successes / (float) machine.tally.tried;
    }

    public double meanBoot() throws IllegalStateException {
        requireLoaded();
        if (machine.log.total == 0) {
            return 0.0;
        }
        return (double) machine.time / (double) machine.log.total;
    }

    // ---- texts

    public int writeSlots() throws IllegalStateException {
        requireLoaded();
        text.clear();
        for (int i = 0; i < MAX_SLOTS && i < machine.size; i++) {
            if (i > 0) {
                text.put(' ');
            }
            writeSlot(machine.slots[i]);
        }
        return text.length;
    }

    private void writeSlot(Slot s) {
        if (!s.image.present) {
            text.put('-');
            return;
        }
        text.putNumber(s.image.version);
        text.put(':');
        text.putNumber(s.priority);
        text.put('/');
        text.putNumber(s.tries);
        if (s.good) {
            text.put('!');
        }
        if (s.number == machine.running) {
            text.put('*');
        }
    }

    public int writeBoots() throws IllegalStateException {
        requireLoaded();
        text.clear();
        int kept = machine.log.kept();
        for (int ago = kept - 1; ago >= 0; ago--) {
            writeBoot(machine.log.rowOf(ago));
            if (ago > 0) {
                text.put(' ');
            }
        }
        if (kept == 0) {
            text.put('-');
        }
        return text.length;
    }

    private void writeBoot(int row) {
        if (row < 0 || row >= KEPT_BOOTS) {
            return;
        }
        text.putNumber(machine.log.times[row]);
        int cause = machine.log.causes[row];
        if (cause >= 0 && cause < CAUSE_LETTERS.length()) {
            text.put(CAUSE_LETTERS.charAt(cause));
        }
        if (machine.log.ran[row] < 0) {
            text.put('r');
        } else {
            text.putNumber(machine.log.ran[row]);
        }
    }

    public int writeMachine() throws IllegalStateException {
        requireLoaded();
        text.clear();
        text.putWord("machine");
        text.putBlankAndNumber(machine.watch);
        text.putBlankAndNumber(machine.limit);
        text.putBlankAndNumber(machine.retry);
        text.putBlankAndNumber(machine.floor);
        for (int i = 0; i < machine.size; i++) {
            text.putWord(";slot");
        }
        for (int i = 0; i < MAX_SLOTS; i++) {
            if (machine.slots[i].image.present) {
                writeImageLine(machine.slots[i]);
                writeMarkLine(machine.slots[i]);
            }
        }
        return text.length;
    }

    private void writeImageLine(Slot s) {
        text.putWord(";image");
        text.putBlankAndNumber(s.number);
        text.putBlankAndNumber(s.image.version);
        text.putBlankAndNumber(s.image.start);
        text.putBlankAndNumber(s.image.crash);
        if (s.image.unsigned) {
            text.putWord(" unsigned");
        }
        if (s.image.damaged) {
            text.putWord(" damaged");
        }
    }

    private void writeMarkLine(Slot s) {
        text.putWord(";mark");
        text.putBlankAndNumber(s.number);
        text.putBlankAndNumber(s.priority);
        text.putBlankAndNumber(s.tries);
        if (s.good) {
            text.putWord(" good");
        }
    }

    public int textByte(int i) throws IndexOutOfBoundsException {
        if (i < 0 || i >= text.length) {
            throw new IndexOutOfBoundsException();
        }
        return text.bytes[i];
    }

    // ---- changes

    public int power() throws IllegalStateException, IllegalArgumentException {
        requireLoaded();
        if (machine.on) {
            throw new IllegalArgumentException();
        }
        remember();
        machine.bootBy(BY_POWER);
        return machine.running;
    }

    public int cut() throws IllegalStateException, IllegalArgumentException {
        requireOn();
        remember();
        int lost = machine.pending.target;
        machine.switchOff();
        return lost;
    }

    public int reboot() throws IllegalStateException, IllegalArgumentException {
        requireOn();
        remember();
        machine.bootBy(BY_HAND);
        return machine.running;
    }

    public int tick(int n) throws IllegalStateException, IllegalArgumentException {
        requireLoaded();
        requireWithin(n, 1, HORIZON);
        requireWithin(machine.time + n, 0, LAST_TIME);
        remember();
        int before = machine.log.total;
        for (int i = 0; i < n; i++) {
            machine.passTick();
        }
        return machine.log.total - before;
    }

    public int begin(int s, int version, int start, int crash, int ticks)
            throws IllegalStateException, IndexOutOfBoundsException, IllegalArgumentException {
        requireSlot(s);
        requireWithin(version, 0, MAX_NUMBER);
        requireWithin(start, 1, MAX_NUMBER);
        requireWithin(crash, 0, MAX_NUMBER);
        requireWithin(ticks, 1, MAX_NUMBER);
        requireOn();
        if (s == machine.running || machine.pending.isOn()) {
            throw new IllegalArgumentException();
        }
        remember();
        machine.slots[s].makeEmpty();
        machine.pending.set(s, ticks);
        machine.pending.image.set(version, start, crash);
        return machine.time + ticks;
    }

    public int spoil(int s, int how)
            throws IllegalStateException, IndexOutOfBoundsException, IllegalArgumentException {
        requireSlot(s);
        requireWithin(how, 0, 2);
        boolean comes = s == machine.pending.target;
        Image spoilt = comes ? machine.pending.image : machine.slots[s].image;
        if (!spoilt.present) {
            throw new IllegalArgumentException();
        }
        remember();
        spoilt.unsigned = spoilt.unsigned || how != 1;
        spoilt.damaged = spoilt.damaged || how != 0;
        return bit(spoilt.unsigned) + 2 * bit(spoilt.damaged);
    }

    public int mark(int s, int priority, int tries)
            throws IllegalStateException, IndexOutOfBoundsException, IllegalArgumentException {
        requireSlot(s);
        requireWithin(priority, 0, MAX_PRIORITY);
        requireWithin(tries, 0, MAX_TRIES);
        Slot marked = machine.slots[s];
        if (!marked.image.present) {
            throw new IllegalArgumentException();
        }
        remember();
        int before = marked.priority;
        marked.priority = priority;
        marked.tries = tries;
        return before;
    }

    public int setNumber(int what, int value) throws IllegalStateException, IllegalArgumentException {
        requireLoaded();
        switch (what) {
            case WATCH: return setWatch(value);
            case LIMIT: return setLimit(value);
            case RETRY: return setRetry(value);
            case FLOOR: return setFloor(value);
            default: throw new IllegalArgumentException();
        }
    }

    private int setWatch(int value) {
        requireWithin(value, 1, MAX_NUMBER);
        remember();
        int before = machine.watch;
        machine.watch = value;
        return before;
    }

    private int setLimit(int value) {
        requireWithin(value, 1, MAX_LIMIT);
        remember();
        int before = machine.limit;
        machine.limit = value;
        return before;
    }

    private int setRetry(int value) {
        requireWithin(value, 0, MAX_TRIES);
        remember();
        int before = machine.retry;
        machine.retry = value;
        return before;
    }

    private int setFloor(int value) {
        requireWithin(value, machine.floor, MAX_NUMBER);
        remember();
        int before = machine.floor;
        machine.floor = value;
        return before;
    }

    public int undo() throws IllegalStateException {
        if (changesKept <= 0) {
            throw new IllegalStateException();
        }
        nextPast = (nextPast + KEPT_CHANGES - 1) % KEPT_CHANGES;
        changesKept--;
        if (nextPast >= 0 && nextPast < KEPT_CHANGES) {
            machine.copyFrom(past[nextPast]);
        }
        return changesKept;
    }

    public int undoable() {
        return changesKept;
    }

    public int save(int slot) throws IllegalStateException, IndexOutOfBoundsException {
        requireLoaded();
        if (slot < 0 || slot >= SAVES) {
            throw new IndexOutOfBoundsException();
        }
        saved[slot].copyFrom(machine);
        isSaved[slot] = true;
        return machine.time;
    }

    public int restore(int slot) throws IndexOutOfBoundsException, IllegalStateException {
        if (slot < 0 || slot >= SAVES) {
            throw new IndexOutOfBoundsException();
        }
        if (!isSaved[slot]) {
            throw new IllegalStateException();
        }
        machine.copyFrom(saved[slot]);
        forgetChanges();
        return machine.time;
    }

    private void remember() {
        if (nextPast >= 0 && nextPast < KEPT_CHANGES) {
            past[nextPast].copyFrom(machine);
        }
        nextPast = (nextPast + 1) % KEPT_CHANGES;
        changesKept = Math.min(changesKept + 1, KEPT_CHANGES);
    }

    private void forgetChanges() {
        nextPast = 0;
        changesKept = 0;
    }

    // ---- what calls require

    private void requireLoaded() {
        if (!loaded) {
            throw new IllegalStateException();
        }
    }

    private void requireSlot(int s) {
        requireLoaded();
        if (s < 0 || s >= MAX_SLOTS || s >= machine.size) {
            throw new IndexOutOfBoundsException();
        }
    }

    private void requireOn() {
        requireLoaded();
        if (!machine.on) {
            throw new IllegalArgumentException();
        }
    }

    private static void requireWithin(int value, int low, int high) {
        if (value < low || value > high) {
            throw new IllegalArgumentException();
        }
    }

    private static int bit(boolean b) {
        return b ? 1 : 0;
    }

    private static final class Image {
        private boolean present;
        private int version;
        private int start;
        private int crash;
        private boolean unsigned;
        private boolean damaged;

        void copyFrom(Image other) {
            present = other.present;
            version = other.version;
            start = other.start;
            crash = other.crash;
            unsigned = other.unsigned;
            damaged = other.damaged;
        }

        void set(int newVersion, int newStart, int newCrash) {
            present = true;
            version = newVersion;
            start = newStart;
            crash = newCrash;
            unsigned = false;
            damaged = false;
        }

        void remove() {
            set(0, 0, 0);
            present = false;
        }
    }

    private static final class Slot {
        private final int number;
        private final Image image = new Image();
        private int priority;
        private int tries;
        private boolean good;
        private int faults;
        private int runs;
        private int tried;
        private int successes;

        Slot(int number) {
            this.number = number;
        }

        void copyFrom(Slot other) {
            image.copyFrom(other.image);
            setMark(other.priority, other.tries, other.good);
            faults = other.faults;
            runs = other.runs;
            tried = other.tried;
            successes = other.successes;
        }

        void setMark(int newPriority, int newTries, boolean newGood) {
            priority = newPriority;
            tries = newTries;
            good = newGood;
        }

        void makeEmpty() {
            image.remove();
            setMark(0, 0, false);
            faults = 0;
        }

        void giveUp() {
            priority = 0;
            good = false;
        }

        boolean isBootableFrom(int floor) {
            boolean fits = image.present && !image.unsigned && image.version >= floor;
            return fits && priority > 0 && (good || tries > 0);
        }

        /** The loader's order; the number decides at last, so no two slots are alike. */
        boolean isAheadOf(Slot other) {
            if (priority != other.priority) {
                return priority > other.priority;
            }
            if (good != other.good) {
                return good;
            }
            if (image.version != other.image.version) {
                return image.version > other.image.version;
            }
            return number < other.number;
        }
    }

    private static final class Install {
        private final Image image = new Image();
        private int target = NONE;
        private int ticksLeft;
        private int tries;

        boolean isOn() {
            return target >= 0;
        }

        void copyFrom(Install other) {
            image.copyFrom(other.image);
            target = other.target;
            ticksLeft = other.ticksLeft;
            tries = other.tries;
        }

        void set(int newTarget, int newTicks) {
            target = newTarget;
            ticksLeft = newTicks;
            tries = INSTALL_TRIES;
        }

        /** One tick less to go; returns whether none is left. */
        boolean goOn() {
            if (!isOn()) {
                return false;
            }
            ticksLeft--;
            return ticksLeft <= 0;
        }

        void stop() {
            target = NONE;
            ticksLeft = 0;
            tries = 0;
            image.remove();
        }
    }

    /** The boots that are kept, in rows that are used again in turn. */
    private static final class BootLog {
        private final int[] times = new int[KEPT_BOOTS];
        private final int[] causes = new int[KEPT_BOOTS];
        private final int[] givenUp = new int[KEPT_BOOTS];
        private final int[] ran = new int[KEPT_BOOTS];
        private int total;

        void copyFrom(BootLog other) {
            for (int i = 0; i < KEPT_BOOTS; i++) {
                times[i] = other.times[i];
                causes[i] = other.causes[i];
                givenUp[i] = other.givenUp[i];
                ran[i] = other.ran[i];
            }
            total = other.total;
        }

        void add(int time, int cause, int givenUpSet, int slotThatRan) {
            int row = total % KEPT_BOOTS;
            if (row >= 0 && row < KEPT_BOOTS) {
                times[row] = time;
                causes[row] = cause;
                givenUp[row] = givenUpSet;
                ran[row] = slotThatRan;
            }
            total++;
        }

        int kept() {
            return Math.min(total, KEPT_BOOTS);
        }

        int rowOf(int ago) {
            if (ago < 0 || ago >= kept()) {
                return NONE;
            }
            return (total - 1 - ago) % KEPT_BOOTS;
        }
    }

    private static final class Tally {
        private int tried;
        private int givenUp;
        private int crashes;
        private int hangs;
        private int successes;
        private int rescueTicks;
        private int installs;

        void copyFrom(Tally other) {
            tried = other.tried;
            givenUp = other.givenUp;
            crashes = other.crashes;
            hangs = other.hangs;
            successes = other.successes;
            rescueTicks = other.rescueTicks;
            installs = other.installs;
        }
    }

    private static final class Machine {
        private final Slot[] slots = new Slot[MAX_SLOTS];
        private final Install pending = new Install();
        private final BootLog log = new BootLog();
        private final Tally tally = new Tally();
        private int size;
        private int watch;
        private int limit;
        private int retry;
        private int floor;
        private int time;
        private boolean on;
        private int running = NONE;
        private int age;

        Machine() {
            for (int i = 0; i < MAX_SLOTS; i++) {
                slots[i] = new Slot(i);
            }
        }

        void copyFrom(Machine other) {
            for (int i = 0; i < MAX_SLOTS; i++) {
                slots[i].copyFrom(other.slots[i]);
            }
            pending.copyFrom(other.pending);
            log.copyFrom(other.log);
            tally.copyFrom(other.tally);
            size = other.size;
            watch = other.watch;
            limit = other.limit;
            retry = other.retry;
            floor = other.floor;
            time = other.time;
            on = other.on;
            running = other.running;
            age = other.age;
        }

        // ---- what it tells

        boolean isRunning() {
            return running >= 0 && running < MAX_SLOTS;
        }

        boolean isInRescue() {
            return on && !isRunning();
        }

        int state() {
            if (!on) {
                return STATE_OFF;
            }
            return isRunning() ? STATE_RUNS : STATE_RESCUE;
        }

        int runningVersion() {
            return running >= 0 && running < MAX_SLOTS ? slots[running].image.version : NONE;
        }

        boolean isBootable(Slot s) {
            return s.isBootableFrom(floor);
        }

        int obstacle(Slot s) {
            if (!s.image.present) {
                return 1;
            }
            if (s.image.unsigned) {
                return 2;
            }
            if (s.image.version < floor) {
                return 3;
            }
            if (s.priority == 0) {
                return 4;
            }
            return s.good || s.tries > 0 ? 0 : 5;
        }

        int bootableSlots() {
            int found = 0;
            for (int i = 0; i < MAX_SLOTS; i++) {
                if (isBootable(slots[i])) {
                    found++;
                }
            }
            return found;
        }

        int goodSlots() {
            int found = 0;
            for (int i = 0; i < MAX_SLOTS; i++) {
                if (slots[i].good) {
                    found++;
                }
            }
            return found;
        }

        int allTries() {
            int sum = 0;
            for (int i = 0; i < MAX_SLOTS; i++) {
                sum += slots[i].tries;
            }
            return sum;
        }

        /** The slot that the loader prefers among all but one; without = NONE leaves none out. */
        int firstBut(int without) {
            int best = NONE;
            for (int i = 0; i < MAX_SLOTS; i++) {
                boolean mayBeTaken = i != without && slots[i].isBootableFrom(floor);
                if (mayBeTaken && (best < 0 || slots[i].isAheadOf(slots[best]))) {
                    best = i;
                }
            }
            return best;
        }

        /** What FLOOR becomes if the GOOD slots and one more have succeeded. */
        int floorByGoodAnd(int s) {
            int least = MAX_NUMBER;
            boolean any = false;
            for (int i = 0; i < MAX_SLOTS; i++) {
                if (slots[i].good || i == s) {
                    any = true;
                    least = Math.min(least, slots[i].image.version);
                }
            }
            return any ? Math.max(floor, least) : floor;
        }

        // ---- what happens to it

        /** Boots, and returns the set of the slots that were given up. */
        int bootBy(int cause) {
            int givenUp = 0;
            on = true;
            running = NONE;
            age = 0;
            for (int turn = 0; turn < MAX_SLOTS && running == NONE; turn++) {
                int s = firstBut(NONE);
                if (s < 0 || s >= MAX_SLOTS) {
                    break;
                }
                if (tryToRun(slots[s])) {
                    running = s;
                } else {
                    givenUp |= 1 << s;
                }
            }
            log.add(time, cause, givenUp, running);
            return givenUp;
        }

        private boolean tryToRun(Slot s) {
            if (!s.good) {
                s.tries--;
                s.tried++;
                tally.tried++;
            }
            if (s.image.damaged) {
                s.giveUp();
                tally.givenUp++;
                return false;
            }
            s.runs++;
            return true;
        }

        void switchOff() {
            on = false;
            running = NONE;
            age = 0;
            pending.stop();
        }

        void passTick() {
            if (isInRescue()) {
                tally.rescueTicks++;
            }
            time++;
            if (running >= 0 && running < MAX_SLOTS) {
                int cause = growOlder(slots[running]);
                if (cause != NONE) {
                    bootBy(cause);
                }
            }
            if (on && pending.goOn()) {
                takeInstall();
                tally.installs++;
                if (isInRescue()) {
                    bootBy(BY_INSTALL);
                }
            }
        }

        /** Returns the cause of the boot that is due now, NONE if none is. */
        private int growOlder(Slot s) {
            age++;
            if (age == s.image.crash) {
                crash(s);
                return BY_CRASH;
            }
            if (age == s.image.start) {
                succeed(s);
                return NONE;
            }
            if (age == watch && !s.good) {
                tally.hangs++;
                return BY_HANG;
            }
            return NONE;
        }

        private void crash(Slot s) {
            tally.crashes++;
            s.faults++;
            if (s.good && s.faults >= limit) {
                s.good = false;
                s.tries = retry;
                s.faults = 0;
            }
        }

        private void succeed(Slot s) {
            if (!s.good) {
                s.good = true;
                s.tries = 0;
                s.successes++;
                tally.successes++;
            }
            s.faults = 0;
            floor = floorByGoodAnd(NONE);
        }

        /** The install ends: its image comes into its slot. */
        void takeInstall() {
            int s = pending.target;
            if (s >= 0 && s < MAX_SLOTS) {
                makeRoomAbove(s);
                slots[s].image.copyFrom(pending.image);
                slots[s].setMark(greatestPriorityBut(s) + 1, pending.tries, false);
                slots[s].faults = 0;
            }
            pending.stop();
        }

        private void makeRoomAbove(int s) {
            if (greatestPriorityBut(s) < MAX_PRIORITY) {
                return;
            }
            for (int i = 0; i < MAX_SLOTS; i++) {
                if (i != s && slots[i].priority > 1) {
                    slots[i].priority--;
                }
            }
        }

        private int greatestPriorityBut(int s) {
            int greatest = 0;
            for (int i = 0; i < MAX_SLOTS; i++) {
                if (i != s) {
                    greatest = Math.max(greatest, slots[i].priority);
                }
            }
            return greatest;
        }

        // ---- what comes of it, for trials: these let ticks pass

        /** Whether further ticks change nothing but the time, AGE and the ticks in rescue. */
        boolean isSettled() {
            if (pending.isOn()) {
                return false;
            }
            if (running < 0 || running >= MAX_SLOTS) {
                return true;
            }
            Image runs = slots[running].image;
            return age >= runs.crash && age >= runs.start && age >= watch;
        }

        void settle(int ticks) {
            for (int i = 0; i < ticks && !isSettled(); i++) {
                passTick();
            }
        }

        int ticksToRescue() {
            for (int ticks = 0; ticks <= HORIZON; ticks++) {
                if (isInRescue()) {
                    return ticks;
                }
                if (isSettled()) {
                    return NONE;
                }
                passTick();
            }
            return NONE;
        }

        int ticksToGood(Slot s) {
            for (int ticks = 0; ticks <= HORIZON; ticks++) {
                if (s.good) {
                    return ticks;
                }
                if (isSettled()) {
                    return NONE;
                }
                passTick();
            }
            return NONE;
        }
    }

    /** Holds the input, and reads a machine from it; of the errors it keeps the first one alone. */
    private static final class Parser {
        private static final int END = 0;
        private static final int BLANK = 1;
        private static final int WORD = 2;
        private static final int NUMBER = 3;
        private static final int SEMICOLON = 4;
        private static final int WRONG = 5;

        private static final int MISPLACED = 1;
        private static final int OUT_OF_BOUNDS = 2;
        private static final int TOLD_TWICE = 3;
        private static final int NO_IMAGE = 4;
        private static final int TOO_MANY_SLOTS = 5;
        private static final int NO_SLOT = 6;

        private static final int LONGEST_WORD = 8;
        private static final int LONGEST_NUMBER = 2;

        private final byte[] bytes = new byte[TEXT_SIZE];
        private final Machine blank = new Machine();
        private final boolean[] marked = new boolean[MAX_SLOTS];
        private int filled;
        private int end;
        private int kind;
        private int tokenStart;
        private int tokenEnd;
        private int error;
        private int errorStart = NONE;

        void addFour(int four) {
            for (int shift = 24; shift >= 0; shift -= 8) {
                if (filled >= 0 && filled < TEXT_SIZE) {
                    bytes[filled] = (byte) (four >>> shift);
                    filled++;
                }
            }
        }

        /** Empties the input; the machine is the one that is told only if there is no error. */
        void parse(int length, Machine into) {
            filled = 0;
            end = length;
            tokenEnd = 0;
            error = 0;
            errorStart = NONE;
            for (int i = 0; i < MAX_SLOTS; i++) {
                marked[i] = false;
            }
            into.copyFrom(blank);
            readToken();
            readFirstLine(into);
            for (int line = 0; line < length && error == 0 && kind != END; line++) {
                readLine(into);
            }
            if (into.size == 0) {
                fail(NO_SLOT);
            }
        }

        private void readFirstLine(Machine into) {
            if (!isWord("machine")) {
                fail(MISPLACED);
            }
            readToken();
            into.watch = takeNumber(1, MAX_NUMBER);
            into.limit = takeNumber(1, MAX_LIMIT);
            into.retry = takeNumber(0, MAX_TRIES);
            into.floor = takeNumber(0, MAX_NUMBER);
        }

        private void readLine(Machine into) {
            if (kind != SEMICOLON) {
                fail(MISPLACED);
                return;
            }
            readToken();
            if (isWord("slot")) {
                readSlotLine(into);
            } else if (isWord("image")) {
                readImageLine(into);
            } else if (isWord("mark")) {
                readMarkLine(into);
            } else {
                fail(MISPLACED);
            }
        }

        private void readSlotLine(Machine into) {
            if (into.size >= MAX_SLOTS) {
                fail(TOO_MANY_SLOTS);
                return;
            }
            into.size++;
            readToken();
        }

        private void readImageLine(Machine into) {
            readToken();
            int s = numberWithin(0, into.size - 1);
            if (s < 0 || s >= MAX_SLOTS) {
                return;
            }
            Slot target = into.slots[s];
            if (target.image.present) {
                fail(TOLD_TWICE);
            }
            readToken();
            int version = takeNumber(0, MAX_NUMBER);
            int start = takeNumber(1, MAX_NUMBER);
            int crash = takeNumber(0, MAX_NUMBER);
            target.image.set(version, start, crash);
            target.image.unsigned = takeIfWord("unsigned");
            target.image.damaged = takeIfWord("damaged");
            target.setMark(1, 1, false);
        }

        private void readMarkLine(Machine into) {
            readToken();
            int s = numberWithin(0, into.size - 1);
            if (s < 0 || s >= MAX_SLOTS) {
                return;
            }
            Slot target = into.slots[s];
            if (marked[s]) {
                fail(TOLD_TWICE);
            }
            if (!target.image.present) {
                fail(NO_IMAGE);
            }
            marked[s] = true;
            readToken();
            int priority = takeNumber(0, MAX_PRIORITY);
            int tries = takeNumber(0, MAX_TRIES);
            target.setMark(priority, tries, takeIfWord("good"));
        }

        private void fail(int code) {
            if (error == 0) {
                error = code;
                errorStart = tokenStart;
            }
        }

        private boolean takeIfWord(String word) {
            boolean is = isWord(word);
            if (is) {
                readToken();
            }
            return is;
        }

        private int takeNumber(int low, int high) {
            int number = numberWithin(low, high);
            readToken();
            return number;
        }

        private int numberWithin(int low, int high) {
            if (kind != NUMBER) {
                fail(MISPLACED);
                return NONE;
            }
            int value = 0;
            for (int i = tokenStart; i < tokenEnd; i++) {
                value = value * 10 + byteAt(i) - '0';
            }
            if (value < low || value > high) {
                fail(OUT_OF_BOUNDS);
                return NONE;
            }
            return value;
        }

        private boolean isWord(String word) {
            if (kind != WORD || tokenEnd - tokenStart != word.length()) {
                return false;
            }
            for (int i = 0; i < word.length(); i++) {
                if (byteAt(tokenStart + i) != word.charAt(i)) {
                    return false;
                }
            }
            return true;
        }

        private void readToken() {
            tokenStart = tokenEnd;
            for (int i = tokenEnd; i < end && byteAt(i) == ' '; i++) {
                tokenStart++;
            }
            kind = kindOf(byteAt(tokenStart));
            tokenEnd = tokenStart;
            if (kind == END) {
                return;
            }
            tokenEnd++;
            boolean isRun = kind == WORD || kind == NUMBER;
            for (int i = tokenEnd; isRun && i < end && kindOf(byteAt(i)) == kind; i++) {
                tokenEnd++;
            }
            int length = tokenEnd - tokenStart;
            if (kind == WORD && length > LONGEST_WORD || kind == NUMBER && length > LONGEST_NUMBER) {
                kind = WRONG;
            }
        }

        /** The byte at an index of the text that is parsed, NONE behind its end. */
        private int byteAt(int i) {
            return i >= 0 && i < end && i < TEXT_SIZE ? bytes[i] & 255 : NONE;
        }

        private static int kindOf(int b) {
            if (b == NONE) {
                return END;
            }
            if (b >= 'a' && b <= 'z') {
                return WORD;
            }
            if (b >= '0' && b <= '9') {
                return NUMBER;
            }
            if (b == ' ') {
                return BLANK;
            }
            return b == ';' ? SEMICOLON : WRONG;
        }
    }

    /** The text that was written last. */
    private static final class Text {
        private final byte[] bytes = new byte[TEXT_SIZE];
        private int length;

        void clear() {
            length = 0;
        }

        void put(char c) {
            if (length >= 0 && length < TEXT_SIZE) {
                bytes[length] = (byte) c;
                length++;
            }
        }

        void putWord(String word) {
            for (int i = 0; i < word.length(); i++) {
                put(word.charAt(i));
            }
        }

        void putNumber(int number) {
            for (int unit = 1000; unit > 0; unit /= 10) {
                if (number >= unit || unit == 1) {
                    put((char) ('0' + number / unit % 10));
                }
            }
        }

        void putBlankAndNumber(int number) {
            put(' ');
            putNumber(number);
        }
    }
}
