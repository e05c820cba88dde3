/** The boundary cases that section 5 names: tokens, lines, errors and where they are. */
final class GrammarEdges extends Edge {
    private static final String LINE = "machine 9 9 1 0";
    private static final String SLOT = LINE + ";slot";
    private static final String IMAGE = SLOT + ";image 0 5 4 0";
    private static final String SIX = LINE + ";slot;slot;slot;slot;slot;slot";

    static void all() {
        buffer();
        tokenLengths();
        blanks();
        runsOfBytes();
        grammar();
        literals();
        linesMean();
        firstError();
        positions();
        codeOne();
        codeTwo();
        codeThree();
        codeFourAndFive();
        codeSix();
    }

    private static BootSlots filled(int appends, String end) {
        BootSlots x = new BootSlots();
        StringBuilder text = new StringBuilder(SLOT);
        while (text.length() < 20 * appends - end.length()) {
            text.append(' ');
        }
        Check.feed(x, text + end);
        return x;
    }

    private static void buffer() {
        section(5, "The input buffer holds at most 600 bytes.");
        BootSlots full = filled(30, ";slot");
        due("full", full.buffered(), 600);
        due("no more", full.append(0, 0, 0, 0, 0), -1);
        due("the last byte counts", full.load(600), 2);
        BootSlots less = filled(30, ";slot");
        Check.dueThrow("without the last byte", Check.ARGUMENT, () -> less.load(599));
        due("a word that the grammar does not know", less.parseError() + " at " + less.errorPosition(), "1 at 596");
        BootSlots last = filled(29, ";slot");
        due("twenty more", last.append(0x20202020, 0x20202020, 0x20202020, 0x20202020, 0x20202020), 600);
        due("that are blank", last.load(600), 2);
    }

    private static void tokenLengths() {
        section(5, "Tokens are words (1 to 8 lower-case letters), numbers (1 to 2 digits) and the semicolon.");
        rightText(IMAGE + " unsigned", IMAGE + " unsigned;mark 0 1 1");
        wrongText(IMAGE + " unsignedd", 1, 35);
        wrongText(IMAGE + " u", 1, 35);
        wrongText("m", 1, 0);
        wrongText("", 1, 0);
        rightText("machine 1 1 1 1;slot", "machine 1 1 1 1;slot");
        rightText("machine 11 1 1 11;slot", "machine 11 1 1 11;slot");
        wrongText("machine 111 1 1 11;slot", 1, 8);
        wrongText(LINE + ";;slot", 1, 16);
    }

    private static void blanks() {
        section(5, "Blanks (byte 32) only separate tokens.");
        rightText("   machine   9   9   1   0   ;   slot   ;   image   0   5   4   0   unsigned   ", IMAGE
                + " unsigned;mark 0 1 1");
        rightText("machine9 9 1 0;slot;image0 5 4 0damaged;mark0 1 1good", IMAGE + " damaged;mark 0 1 1 good");
        wrongText("mach ine 9 9 1 0;slot", 1, 0);
        wrongText("machine 9 9 10;slot", 2, 12);
        wrongText("machine 9 9 1 0;sl ot", 1, 16);
        wrongText("machine" + (char) 31 + "9 9 1 0;slot", 1, 7);
        wrongText("machine!9 9 1 0;slot", 1, 7);
        wrongText("machine\t9 9 1 0;slot", 1, 7);
        wrongText("machine\n9 9 1 0;slot", 1, 7);
        wrongText("machine" + (char) 160 + "9 9 1 0;slot", 1, 7);
        wrongText("machine" + (char) 0 + "9 9 1 0;slot", 1, 7);
    }

    private static void runsOfBytes() {
        section(5, "A run of letters ends at the first byte that is not a lower-case letter;");
        char[] besideLetters = {'a' - 1, 'z' + 1, 'A', 'Z', (char) ('a' + 128), (char) 0, (char) 255};
        for (char c : besideLetters) {
            wrongText(SLOT + c, 1, 20);
            wrongText(LINE + ";slo" + c, 1, 16);
        }
        rightText(LINE + ";slot;slot", LINE + ";slot;slot");
        wrongText(LINE + ";slota", 1, 16);
        wrongText(LINE + ";slotz", 1, 16);
        wrongText(LINE + ";slot0", 1, 20);
        section(5, "a run of digits ends at the first byte that is not a digit;");
        char[] besideDigits = {'0' - 1, '9' + 1, (char) ('0' + 128), 'a', 'z'};
        for (char c : besideDigits) {
            if (c != ';') {
                wrongText("machine 9 9 1 0" + c + ";slot", 1, 15);
            }
        }
        rightText("machine 9 9 1 0;slot", SLOT);
        rightText("machine 99 9 1 90;slot", "machine 99 9 1 90;slot");
        wrongText("machine 9 9 1 00;slot;image 0 5 4 0;mark 0 1 1 9", 1, 47);
        section(5, "leading zeros count as digits.");
        rightText("machine 09 09 01 00;slot;image 00 05 04 00;mark 00 01 01", IMAGE + ";mark 0 1 1");
        wrongText("machine 009 9 1 0;slot", 1, 8);
        wrongText("machine 9 9 1 000;slot", 1, 14);
        wrongText(SLOT + ";image 000 5 4 0", 1, 27);
        wrongText("machine 00 9 1 0;slot", 2, 8);
    }

    private static void grammar() {
        section(5, "The grammar, with literals in quotes: text = \"machine\" WATCH LIMIT RETRY FLOOR {\";\" line}");
        rightText(LINE + ";slot", LINE + ";slot");
        wrongText("slot", 1, 0);
        wrongText(" ;" + LINE, 1, 1);
        wrongText("machine 9 9 1", 1, 13);
        wrongText("machine 9 9 1 0 0;slot", 1, 16);
        wrongText("machine 9 9 1;slot", 1, 13);
        wrongText("machine machine 9 9 1 0", 1, 8);
        wrongText(LINE + " slot", 1, 16);
        wrongText(LINE + ";machine 9 9 1 0", 1, 16);
        wrongText(SLOT + ";", 1, 21);
        wrongText(SLOT + ";;slot", 1, 21);
        section(5, "line = \"slot\" | \"image\" SLOT VERSION START CRASH [\"unsigned\"] [\"damaged\"] | \"mark\" SLOT"
                + " PRIORITY TRIES [\"good\"]");
        rightText(IMAGE + " unsigned damaged", IMAGE + " unsigned damaged;mark 0 1 1");
        rightText(IMAGE + " damaged", IMAGE + " damaged;mark 0 1 1");
        rightText(IMAGE + ";mark 0 1 1 good", IMAGE + ";mark 0 1 1 good");
        wrongText(SLOT + " 0", 1, 21);
        wrongText(SLOT + " good", 1, 21);
        wrongText(IMAGE + " damaged unsigned", 1, 43);
        wrongText(IMAGE + " unsigned unsigned", 1, 44);
        wrongText(IMAGE + " damaged damaged", 1, 43);
        wrongText(IMAGE + " good", 1, 35);
        wrongText(IMAGE + " 0", 1, 35);
        wrongText(SLOT + ";image 0 5 4 unsigned", 1, 33);
        wrongText(SLOT + ";image unsigned", 1, 27);
        wrongText(IMAGE + ";mark 0 1 good", 1, 44);
        wrongText(IMAGE + ";mark 0 1 1 unsigned", 1, 46);
        wrongText(IMAGE + ";mark 0 1 1 good good", 1, 51);
        wrongText(IMAGE + ";mark 0 1 1 1", 1, 46);
    }

    /** Each literal with another first letter, with another last letter, without it, and with one more. */
    private static void literals() {
        String[] ahead = {"", LINE + ";", SLOT + ";", IMAGE + ";", IMAGE + " ", IMAGE + " ", IMAGE + ";mark 0 1 1 "};
        String[] words = {"machine", "slot", "image", "mark", "unsigned", "damaged", "good"};
        String[] behind = {" 9 9 1 0;slot", "", " 0 5 4 0", " 0 1 1", "", "", ""};
        for (int i = 0; i < words.length; i++) {
            String word = words[i];
            String less = word.substring(0, word.length() - 1);
            takes(word, BootSlots::new, literal(ahead[i] + word + behind[i]));
            wrongText(ahead[i] + "x" + word.substring(1) + behind[i], 1, ahead[i].length());
            wrongText(ahead[i] + less + "x" + behind[i], 1, ahead[i].length());
            wrongText(ahead[i] + less + behind[i], 1, ahead[i].length());
            wrongText(ahead[i] + word + "x" + behind[i], 1, ahead[i].length());
        }
    }

    private static Call literal(String text) {
        return x -> load(x, text);
    }

    private static void linesMean() {
        section(5, "\"slot\" tells the next slot, which is empty; SLOT is the number of a slot that was told ahead.");
        due("the sixth one", of(6, "9 9 1 0", "image 5 1 1 1").slot(5, 0), 1);
        rightText(SLOT + ";image 0 1 1 1;slot;image 1 2 2 2",
                LINE + ";slot;slot;image 0 1 1 1;mark 0 1 1;image 1 2 2 2;mark 1 1 1");
        wrongText(SLOT + ";image 0 1 1 1;image 1 2 2 2;slot", 2, 41);
        wrongText(LINE + ";image 0 1 1 1;slot", 2, 22);
        wrongText(SIX + ";image 6 1 1 1", 2, 52);
        section(5, "\"image\" puts an image into it; \"mark\" tells PRIORITY, TRIES and whether it is GOOD of a slot that"
                + " has an image (without a \"mark\" PRIORITY is 1, TRIES 1, and it is not GOOD).");
        due("without a mark", Check.slots(Check.of(IMAGE)), "5:1/1");
        due("a mark of zeros", Check.slots(Check.of(IMAGE + ";mark 0 0 0")), "5:0/0");
        due("the greatest mark", Check.slots(Check.of(IMAGE + ";mark 0 15 7 good")), "5:15/7!");
        due("a mark of another one", Check.slots(Check.of(IMAGE + ";slot;image 1 6 4 0;mark 1 2 2 good")),
                "5:1/1 6:2/2!");
    }

    private static void firstError() {
        section(5, "Parsing stops at the first token, from the left, at which an error is found; if several errors apply"
                + " to that token, the smallest code is reported.");
        wrongText("machine 0 0 9 0;slot", 2, 8);
        wrongText("machine 9 0 9 A", 2, 10);
        wrongText("machine 9 9 9 A", 2, 12);
        wrongText(LINE + ";image 0 0 0 0", 2, 22);
        wrongText(IMAGE + ";image 0 5 0 0", 3, 41);
        wrongText(IMAGE + ";mark 0 1 1;mark 0 16 8", 3, 51);
        wrongText(SLOT + ";mark 0 16 8", 4, 26);
        wrongText(SIX + ";slot;image 9", 5, 46);
        // the end of the text: a line that is not complete, and no slot
        wrongText("", 1, 0);
        wrongText("machine 9 9 1", 1, 13);
        wrongText(LINE + ";", 1, 16);
        // a number that is too long is a token that tells no number at all
        wrongText("machine 100 9 1 0;slot", 1, 8);
        wrongText(SLOT + ";image 100 5 4 0", 1, 27);
        wrongText(SIX + ";slots", 1, 46);
    }

    private static void positions() {
        section(5, "The position of an error is the index of the token's first byte; at the end of the text it is the"
                + " number of bytes that are parsed.");
        wrongText("x", 1, 0);
        wrongText("   x", 1, 3);
        wrongText("machine 9 9   88 1;slot", 2, 14);
        wrongText("machine 9 9 1 0   ;   abc", 1, 22);
        wrongText(LINE, 6, 15);
        wrongText(LINE + "     ", 6, 20);
        wrongText(SLOT + ";  ", 1, 23);
        BootSlots x = new BootSlots();
        Check.feed(x, SLOT + ";slot;slot");
        Check.dueThrow("of a text that goes on in the buffer", Check.ARGUMENT, () -> x.load(15));
        due("the end is behind n bytes", x.parseError() + " at " + x.errorPosition(), "6 at 15");
        BootSlots y = filled(30, "x");
        Check.dueThrow("of the last byte", Check.ARGUMENT, () -> y.load(600));
        due("the last position", y.parseError() + " at " + y.errorPosition(), "1 at 599");
        BootSlots z = filled(30, ";");
        Check.dueThrow("of the end", Check.ARGUMENT, () -> z.load(600));
        due("the position behind the last byte", z.parseError() + " at " + z.errorPosition(), "1 at 600");
    }

    private static void codeOne() {
        section(5, "1: a byte that starts no token, a word of 9 or more letters, a number of 3 or more digits, a token"
                + " that the grammar does not allow here, or the end of the text where a line is not complete.");
        for (int b = 0; b < 256; b++) {
            boolean starts = b == ' ' || b == ';' || b >= '0' && b <= '9' || b >= 'a' && b <= 'z';
            if (!starts) {
                wrongText(SLOT + " " + (char) b + " ", 1, 21);
            }
        }
        wrongText(SLOT + " abcdefgh", 1, 21);
        wrongText(SLOT + " abcdefghi", 1, 21);
        wrongText("machineab 9 9 1 0;slot", 1, 0);
        wrongText("machine 9 9 1 0;slot;image 0 999 4 0", 1, 29);
        wrongText("machine 9 9 1 0;slot;image 0 0000000000000000000005 4 0", 1, 29);
        String[] open = {"machine", "machine 9", "machine 9 9", "machine 9 9 1", LINE + ";", SLOT + ";", SLOT + ";image",
            SLOT + ";image 0", SLOT + ";image 0 5", SLOT + ";image 0 5 4", IMAGE + ";", IMAGE + ";mark",
            IMAGE + ";mark 0", IMAGE + ";mark 0 1", IMAGE + ";mark 0 1 1;", IMAGE + " unsigned;"};
        for (String text : open) {
            wrongText(text, 1, text.length());
            wrongText(text + "  ", 1, text.length() + 2);
        }
        String[] complete = {SLOT, IMAGE, IMAGE + " unsigned", IMAGE + " unsigned damaged", IMAGE + ";mark 0 1 1",
            IMAGE + ";mark 0 1 1 good"};
        for (String text : complete) {
            takes("the end behind " + text, BootSlots::new, x -> load(x, text));
        }
    }

    private static int load(BootSlots x, String text) {
        Check.feed(x, text);
        return x.load(text.length());
    }

    private static void codeTwo() {
        section(5, "2: a number out of its bounds (also a slot that was not told ahead).");
        wrongText("machine 0 9 1 0;slot", 2, 8);
        wrongText("machine 9 0 1 0;slot", 2, 10);
        wrongText("machine 9 10 1 0;slot", 2, 10);
        wrongText("machine 9 9 8 0;slot", 2, 12);
        wrongText(SLOT + ";image 1 5 4 0", 2, 27);
        wrongText(SLOT + ";image 0 5 0 0", 2, 31);
        wrongText(SLOT + ";image 99 5 4 0", 2, 27);
        wrongText(IMAGE + ";mark 1 1 1", 2, 40);
        wrongText(IMAGE + ";mark 99 1 1", 2, 40);
        wrongText(IMAGE + ";mark 0 16 1", 2, 42);
        wrongText(IMAGE + ";mark 0 1 8", 2, 44);
        wrongText(LINE + ";mark 0 1 1", 2, 21);
    }

    private static void codeThree() {
        section(5, "3: the SLOT of an \"image\" that has one already, or of a \"mark\" for which there was one ahead.");
        wrongText(IMAGE + ";image 0 5 4 0", 3, 41);
        wrongText(IMAGE + ";slot;image 1 5 4 0;image 0 5 4 0", 3, 60);
        wrongText(IMAGE + ";mark 0 1 1;image 0 5 4 0", 3, 52);
        wrongText(IMAGE + ";mark 0 1 1;mark 0 1 1", 3, 51);
        wrongText(IMAGE + ";mark 0 0 0;mark 00 0 0", 3, 51);
        // marks of an earlier text are none of this one
        BootSlots x = Check.of(IMAGE + ";mark 0 2 2");
        due("the same text again", load(x, IMAGE + ";mark 0 3 3") + " " + Check.slots(x), "1 5:3/3");
    }

    private static void codeFourAndFive() {
        section(5, "4: the SLOT of a \"mark\" without an image.");
        wrongText(SLOT + ";mark 0 1 1", 4, 26);
        wrongText(IMAGE + ";slot;mark 1 1 1", 4, 45);
        wrongText(SLOT + ";mark 0 1 1;image 0 5 4 0", 4, 26);
        section(5, "5: the first word of a 7th slot.");
        due("six", Check.of(SIX).count(0), 6);
        wrongText(SIX + ";slot", 5, 46);
        wrongText(SIX + ";  slot 9", 5, 48);
        wrongText(SIX + ";image 5 1 1 1;slot", 5, 60);
    }

    private static void codeSix() {
        section(5, "6: the end of the text, if there is no slot.");
        wrongText(LINE, 6, 15);
        wrongText(LINE + " ", 6, 16);
        wrongText(LINE + "  ", 6, 17);
        takes("one slot", BootSlots::new, x -> load(x, SLOT));
    }
}
