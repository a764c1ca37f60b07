/** Counts answers that are due and those that are not. */
final class Check {
    static int passed = 0;
    static int failed = 0;

    private Check() {
    }

    static void is(String what, long got, long due) {
        if (got == due) {
            passed++;
        } else {
            failed++;
            System.out.println(what + " answered " + got + ", due is " + due);
        }
    }

    static void is(String what, boolean got, boolean due) {
        is(what, got ? 1 : 0, due ? 1 : 0);
    }

    /** Twenty bytes of the text from there on, filled up by blanks, as they are fed. */
    static int[] fours(String text, int at) {
        int[] fours = new int[5];
        for (int i = 0; i < 20; i++) {
            int b = at + i < text.length() ? text.charAt(at + i) : ' ';
            fours[i / 4] = fours[i / 4] << 8 | b & 255;
        }
        return fours;
    }

    /** Feeds a text of up to 300 bytes behind the tape of x, and nothing else. */
    static void tape(MovingStairs x, String text) {
        int before = x.about(9);
        for (int at = 0; at < text.length(); at += 20) {
            int[] fours = fours(text, at);
            x.feed(fours[0], fours[1], fours[2], fours[3], fours[4]);
        }
        x.end(before + text.length());
    }

    /** Tells the text and makes it THE TEXT. */
    static void law(MovingStairs x, String text) {
        tape(x, text);
        int number = x.text();
        is("text of " + text, number >= 0, true);
        is("by it", x.by(number), true);
    }

    static void fault(String text, int kind, int place) {
        MovingStairs x = new MovingStairs();
        tape(x, text);
        is("bytes of " + text, x.about(9), text.length());
        is("text of <" + text + ">", x.text(), kind == 0 ? 0 : -1);
        is("fault of <" + text + ">", x.fault(0), kind);
        is("place in <" + text + ">", x.fault(1), kind == 0 ? -1 : place);
        is("tape behind <" + text + ">", x.about(9), 0);
        is("texts behind <" + text + ">", x.about(4), kind == 0 ? 1 : 0);
    }
}
