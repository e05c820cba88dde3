/** Loads a machine, boots it, installs a newer image, and takes a change back; README.md shows it. */
public final class Example {
    public static void main(String[] args) {
        BootSlots x = new BootSlots();
        String text = "machine 10 2 1 0;slot;slot;image 0 5 4 0;mark 0 2 0 good";
        append(x, text);
        System.out.println("slots: " + x.load(text.length()));
        System.out.println("runs: " + x.power());
        System.out.println("the install ends at " + x.begin(1, 7, 4, 0, 3));
        System.out.println("boots in 3 ticks: " + x.tick(3));
        System.out.println(written(x, x.writeSlots()));
        System.out.println("would run: " + x.ifBooted() + ", will be GOOD by itself: " + x.goodIn(1));
        System.out.println("runs: " + x.reboot());
        System.out.println("FLOOR behind 4 ticks: " + x.floorIn(4) + ", now: " + x.count(5));
        x.tick(4);
        System.out.println(written(x, x.writeSlots()));
        System.out.println(written(x, x.writeBoots()));
        System.out.println("changes left behind undo: " + x.undo());
        System.out.println(written(x, x.writeSlots()));
        tellRefusals(x);
    }

    private static void tellRefusals(BootSlots x) {
        try {
            x.slot(2, 1);
        } catch (IndexOutOfBoundsException e) {
            System.out.println("there is no slot 2");
        }
        try {
            x.power();
        } catch (IllegalArgumentException e) {
            System.out.println("the power is on");
        }
        String wrong = "machine 10 2 8 0;slot";
        append(x, wrong);
        try {
            x.load(wrong.length());
        } catch (IllegalArgumentException e) {
            System.out.println("error " + x.parseError() + " at " + x.errorPosition());
        }
        System.out.println("slots: " + x.count(0) + ", bytes in the buffer: " + x.buffered());
    }

    /** Twenty bytes a call, with blanks behind the end of the text. */
    private static void append(BootSlots x, String text) {
        for (int i = 0; i < text.length(); i += 20) {
            x.append(four(text, i), four(text, i + 4), four(text, i + 8), four(text, i + 12), four(text, i + 16));
        }
    }

    /** Four bytes in one number, the most significant byte first. */
    private static int four(String text, int from) {
        int four = 0;
        for (int i = from; i < from + 4; i++) {
            four = four << 8 | (i < text.length() ? text.charAt(i) : ' ');
        }
        return four;
    }

    /** The text that was written last, of which the write call answered the length. */
    private static String written(BootSlots x, int length) {
        StringBuilder text = new StringBuilder();
        for (int i = 0; i < length; i++) {
            text.append((char) x.textByte(i));
        }
        return text.toString();
    }
}
