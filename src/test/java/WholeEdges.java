/** What the document says of the whole: "What it is", what stands ahead of section 1, "Not promised". */
final class WholeEdges extends Edge {
    /** GOOD and old, damaged, one that crashes, one that hangs, one that FLOOR shuts out, and an empty slot. */
    private static final String STORY = text(6, "10 2 1 1", "image 0 5 4 0", "mark 0 2 0 good", "image 1 7 4 0 damaged",
            "mark 1 9 2", "image 2 8 4 2", "mark 2 8 2", "image 3 9 50 0", "mark 3 7 1", "image 4 0 4 0", "mark 4 15 7");

    static void all() {
        whatItIs();
        terms();
        notPromised();
    }

    private static void whole(String part, String words) {
        Check.about(part + ", \"" + words + "\"");
        Doc.hold(part, words);
    }

    private static void whatItIs() {
        whole("What it is", "A boot loader that chooses among images: slots with priorities and tries that are counted, marks"
                + " of success, images that crash, hang or are damaged, slots that are fallen back to, a floor of versions"
                + " that guards against older ones, installs that take their time, and what will and would be.");
        BootSlots x = Check.of(STORY);
        due("the damaged one would be given up", x.givenUpIf(), 2);
        due("the next one runs", x.power(), 2);
        due("it crashes at once, and is tried again", x.tick(2), 1);
        due("it will crash, then one will hang, then one will hold", x.bootsIn(300) + " " + x.slotIn(300), "2 0");
        due("its tries are spent", x.tick(2), 1);
        due("the one that hangs runs", x.count(7), 3);
        due("what would be fallen back to", x.fallback(), 0);
        due("it hangs", x.tick(10), 1);
        due("it is fallen back to", x.count(7), 0);
        due("FLOOR guards", x.sinking(), 16);
        due("the old one holds", x.tick(4), 0);
        due("FLOOR rises", x.count(5), 5);
        due("the install takes its time", x.begin(5, 9, 4, 0, 3), 21);
        due("no boot by it", x.tick(3), 0);
        due("the slots", Check.slots(x), "5:1/0!* 7:0/1 8:7/0 9:6/0 0:14/7 9:15/3");
        due("what would run, and what will", x.ifBooted() + " " + x.slotIn(300), "5 0");
        x.reboot();
        x.tick(4);
        due("the slots at last", Check.slots(x), "5:1/0! 7:0/1 8:7/0 9:6/0 0:14/7 9:15/0!*");
        due("the boots", Check.boots(x), "0p2 2c2 4c3 14h0 21r5");
        due("the counts", Check.counts(x), "6 25 10 2 1 5 1 5 4 2 2 8 5 5 1 2 1 1 0 1");
    }

    private static void terms() {
        whole("Terms", "The class parses a machine, lets it boot, run and install, and tells slots, images, boots and"
                + " counts.");
        BootSlots x = Check.of(STORY);
        due("parsed", x.count(0) + " slots, error " + x.parseError(), "6 slots, error 0");
        x.power();
        due("booted", x.boot(0, 3), 2);
        x.begin(0, 9, 9, 9, 9);
        x.tick(9);
        due("run", x.slot(2, 6) + " " + x.slot(3, 6), "2 1");
        due("installed", x.image(0, 0) + " " + x.slot(0, 1), "9 15");
        due("counted", x.count(15), 2);
    }

    /** What is free cannot be tested; that nothing is there beyond the face, FaceTest tells. */
    private static void notPromised() {
        Doc.hold("What it is", "what later calls answer is free.");
        Doc.hold("Not promised", "How the state is held inside the object is free, as are the speed of each call, the text of"
                + " toString and the behaviour of equals and hashCode. Use of one object from several threads at once is not"
                + " promised to be safe.");
        whole("Not promised", "Nothing is promised beyond the answers and state changes described above, and nothing about an"
                + " object after its 512th call.");
        BootSlots one = Check.of(STORY);
        BootSlots other = Check.of(STORY);
        one.power();
        due("an object knows nothing of another one", other.count(6) + " " + other.undoable(), "0 0");
    }
}
