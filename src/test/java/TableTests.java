/** Promises 26 to 34: days, mends, loads, and the image. */
final class TableTests {
    private TableTests() {
    }

    static void runAll() {
        days();
        effects();
        mends();
        orders();
        orderCounts();
        loads();
        takenFound();
        takenByPast();
        image();
        imageOfTexts();
    }

    private static void days() {
        MovingStairs x = new MovingStairs();
        int[][] wrong = {{-1, 5}, {6, 5}, {0, -1}, {0, 10000}, {Integer.MIN_VALUE, Integer.MAX_VALUE}};
        for (int[] w : wrong) {
            Check.is("wrong day", x.day(true, w[0], w[1]), -1);
            Check.is("wrong day", x.day(false, w[0], w[1]), -1);
        }
        Check.is("day", x.day(true, 5, 9999), 1);
        Check.is("day", x.day(false, 0, 0), 2);
        for (int i = 3; i <= 40; i++) {
            Check.is("day", x.day(false, 1, 7), i);
        }
        Check.is("41st day", x.day(false, 1, 7), -1);
        Check.is("days", x.about(6), 40);
    }

    private static void effects() {
        MovingStairs x = new MovingStairs();
        int none = -1000000000;
        Check.is("no days", x.effect(), none);
        x.day(true, 0, 10);
        x.day(true, 0, 11);
        x.day(true, 2, 9999);
        x.day(false, 3, 9999);
        Check.is("no class has both", x.effect(), none);
        x.day(false, 0, 5);
        x.day(false, 0, 5);
        x.day(false, 0, 6);
        Check.is("10500 less 5333", x.effect(), 5167);
        x.day(true, 0, 12);
        Check.is("11000 less 5333", x.effect(), 5667);
        x.day(true, 1, 1);
        x.day(false, 1, 4);
        Check.is("of both", x.effect(), (5667 * 3 - 3000) / 4);
        MovingStairs y = new MovingStairs();
        y.day(true, 0, 0);
        y.day(false, 0, 1);
        y.day(true, 1, 0);
        y.day(true, 1, 0);
        y.day(false, 1, 0);
        y.day(false, 1, 0);
        y.day(false, 1, 1);
        Check.is("cut towards 0", y.effect(), -555);
    }

    private static void mends() {
        MovingStairs x = new MovingStairs();
        int[][] wrong = {
            {-1, 1, 1, 1}, {1000, 1, 1, 1}, {1, -1, 1, 1}, {1, 100, 1, 1},
            {1, 1, -1, 1}, {1, 1, 1000, 1}, {1, 1, 1, 0}, {1, 1, 1, 10},
        };
        for (int[] w : wrong) {
            Check.is("wrong mend", x.mend(w[0], w[1], w[2], w[3]), -1);
        }
        Check.is("order without mends", x.order(-1), -1);
        Check.is("first without mends", x.order(0), -1);
        Check.is("mend", x.mend(0, 0, 0, 1), 0);
        Check.is("mend", x.mend(999, 99, 999, 9), 1);
        for (int i = 2; i < 6; i++) {
            Check.is("mend", x.mend(1, 1, 1, 1), i);
        }
        Check.is("seventh mend", x.mend(1, 1, 1, 1), -1);
        Check.is("mends", x.about(7), 6);
        Check.is("order 6", x.order(6), -1);
        Check.is("order -2", x.order(-2), -1);
        Check.is("order lowest", x.order(Integer.MIN_VALUE), -1);
    }

    private static void order(MovingStairs x, int counted, int... due) {
        Check.is("how many count", x.order(-1), counted);
        for (int i = 0; i < due.length; i++) {
            Check.is("order " + i, x.order(i), due[i]);
        }
        Check.is("order behind", x.order(due.length), -1);
    }

    private static void orders() {
        MovingStairs x = new MovingStairs();
        x.mend(10, 0, 5, 2);
        order(x, 0, 0);
        x.mend(10, 0, 5, 1);
        order(x, 1, 1, 0);
        x.mend(0, 0, 5, 3);
        order(x, 1, 1, 0, 2);
        MovingStairs y = new MovingStairs();
        for (int i = 0; i < 6; i++) {
            y.mend(5, 0, 5, 6 - i);
        }
        order(y, 0, 0, 1, 2, 3, 4, 5);
        MovingStairs z = new MovingStairs();
        z.mend(5, 1, 6, 3);
        z.mend(5, 1, 6, 2);
        order(z, 0, 1, 0);
        z.mend(3, 1, 6, 1);
        order(z, 1, 1, 0, 2);
    }

    /** Each one that isn't begun counts by itself. */
    private static void orderCounts() {
        MovingStairs x = new MovingStairs();
        x.mend(9, 0, 0, 3);
        x.mend(9, 0, 0, 2);
        x.mend(9, 0, 0, 1);
        order(x, 1 + 3, 2, 1, 0);
        x.back();
        x.mend(9, 0, 0, 3);
        x.mend(9, 0, 0, 2);
        x.image();
        order(x, 2, 1, 0);
        x.mend(9, 9, 0, 9);
        x.mend(9, 9, 0, 9);
        Check.is("more count", x.order(-1) > 2, true);
        x.back();
        order(x, 2, 1, 0);
    }

    private static void loads() {
        MovingStairs x = new MovingStairs();
        Check.is("load -1", x.load(-1), -1);
        Check.is("load 81", x.load(81), -1);
        Check.is("unload of none", x.unload(), 0);
        Check.is("taken without loads", x.taken(5, true), -1);
        Check.is("load 0", x.load(0), 1);
        Check.is("load 80", x.load(80), 2);
        for (int i = 3; i <= 60; i++) {
            Check.is("load", x.load(5), i);
        }
        Check.is("61st load", x.load(5), -1);
        Check.is("loads", x.about(8), 60);
        Check.is("unload", x.unload(), 60);
        Check.is("loads", x.about(8), 0);
        x.load(3);
        Check.is("length 1", x.taken(1, true), -1);
        Check.is("length 41", x.taken(41, true), -1);
        Check.is("length -1", x.taken(-1, true), -1);
        Check.is("length 2", x.taken(2, true), 0);
        Check.is("length 40", x.taken(40, false), 0);
    }

    private static void taken(int length, int least, int most, int... loads) {
        MovingStairs x = new MovingStairs();
        for (int load : loads) {
            x.load(load);
        }
        Check.is("least", x.taken(length, false), least);
        Check.is("most", x.taken(length, true), most);
    }

    private static void takenFound() {
        taken(2, 0, 0, 4);
        taken(2, -1, -1, 5);
        taken(2, 0, 2, 2, 2);
        taken(2, 2, 2, 4, 4);
        taken(2, 2, 2, 2, 2, 2);
        taken(2, 2, 4, 2, 2, 2, 2);
        taken(3, 1, 3, 3, 3, 3);
        taken(3, 2, 4, 4, 4, 4);
        taken(3, 0, 0, 0, 0, 0, 0);
        taken(3, -1, -1, 0, 3);
        taken(3, -1, -1, 6, 3);
        taken(3, -1, -1, 0, 2, 4, 6, 8);
        taken(3, 6, 6, 0, 2, 4, 6);
        taken(3, 2, 2, 0, 1, 2, 2, 1, 0);
        taken(40, 0, 0, 80);
        taken(40, 0, 2, 40, 40);
        taken(40, 2, 2, 80, 80);
    }

    /** Who was on it at first left in seconds that later loads tell. */
    private static void takenByPast() {
        taken(2, 1, 2, 1, 2);
        taken(2, 2, 2, 0, 2);
        taken(2, 0, 0, 3, 1);
        taken(2, 0, 1, 2, 1);
    }

    private static void image() {
        MovingStairs x = new MovingStairs();
        x.hall(9);
        x.hall(9);
        x.link(0, 0, 1, 3, 0);
        x.burst(0, 1, 0, 1, 2, false, false);
        x.burst(0, 1, 0, 1, 2, true, true);
        x.day(true, 0, 5);
        x.mend(5, 5, 5, 5);
        x.load(5);
        x.run(5);
        Check.is("image", x.image(), 5);
        int waited = x.all(1);
        int taken = x.on(0, 5);
        int outside = x.of(0, 1);
        int first = x.step(0, 0, 0);
        x.hall(7);
        x.link(2, 0, 1, 3, 5);
        x.turn(0, 2);
        x.turn(0, 0);
        x.mode(0, 1);
        x.bar(0, 3);
        x.burst(9, 1, 0, 1, 2, false, false);
        x.day(false, 0, 7);
        x.mend(5, 5, 5, 5);
        x.load(5);
        x.run(50);
        for (int twice = 0; twice < 2; twice++) {
            Check.is("back", x.back(), 5);
            Check.is("second", x.about(0), 5);
            Check.is("halls", x.about(1), 2);
            Check.is("links", x.about(2), 1);
            Check.is("bursts", x.about(3), 2);
            Check.is("days", x.about(6), 1);
            Check.is("mends", x.about(7), 1);
            Check.is("loads", x.about(8), 1);
            Check.is("waited", x.all(1), waited);
            Check.is("taken", x.on(0, 5), taken);
            Check.is("outside", x.of(0, 1), outside);
            Check.is("first step", x.step(0, 0, 0), first);
            Check.is("way", x.on(0, 1), 1);
            Check.is("wanted", x.on(0, 4), 1);
            Check.is("goes", x.on(0, 2), 1);
            Check.is("mode", x.on(0, 7), 0);
            Check.is("bar", x.of(0, 4), 999);
            Check.is("effect", x.effect(), -1000000000);
            Check.is("a new hall", x.hall(3), 2);
            Check.is("is empty", x.of(2, 0), 0);
            x.unload();
            x.run(9);
        }
        x.image();
        Check.is("the new image", x.back(), 14);
        Check.is("has its hall", x.about(1), 3);
        Check.is("and no loads", x.about(8), 0);
    }

    private static void imageOfTexts() {
        MovingStairs x = new MovingStairs();
        x.hall(9);
        Check.law(x, "shut 1<2;");
        x.image();
        Check.law(x, "shut 2<1;");
        Check.tape(x, "walk 10000;");
        x.text();
        Check.tape(x, "shut 1<2;");
        x.back();
        Check.is("texts", x.about(4), 1);
        Check.is("the text", x.about(5), 0);
        Check.is("the tape stays", x.about(9), 9);
        Check.is("the fault stays", x.fault(0), 2);
        Check.is("its place stays", x.fault(1), 5);
        Check.is("the text behind is gone", x.by(1), false);
        x.run(1);
        Check.is("by the first", x.of(0, 2), 1);
        x.end(0);
        Check.law(x, "shut 3<2;");
        Check.is("its number again", x.about(5), 1);
        x.run(1);
        Check.is("by the new one", x.of(0, 2), 1);
        x.back();
        x.by(-1);
        x.image();
        Check.is("the text may be none", x.by(0), true);
        x.back();
        Check.is("none again", x.about(5), -1);
    }
}
