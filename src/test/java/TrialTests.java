/** Promises 20 to 25: what is tried, without anything changing. */
final class TrialTests {
    private TrialTests() {
    }

    static void runAll() {
        waysWrong();
        waysFound();
        waysOfSeveral();
        waysAsTurned();
        leastWrong();
        leastFound();
        leastByTrips();
        leastNone();
        feltWrong();
        feltFound();
        standingWrong();
        standingFound();
        nothingChanges();
        alone();
        crossing();
    }

    private static MovingStairs twoHalls(int room) {
        MovingStairs x = new MovingStairs();
        x.hall(room);
        x.hall(room);
        return x;
    }

    private static void waysWrong() {
        MovingStairs x = twoHalls(9);
        x.link(2, 0, 1, 5, 5);
        for (int i = 0; i < 6; i++) {
            x.link(i % 2, 0, 1, 5, 0);
        }
        Check.is("no links", x.ways(0, 5, 0), -1);
        Check.is("a lift", x.ways(1, 5, 0), -1);
        Check.is("a lift among others", x.ways(7, 5, 0), -1);
        Check.is("one that isn't", x.ways(128, 5, 0), -1);
        Check.is("far beyond", x.ways(1 << 20, 5, 0), -1);
        Check.is("the sign", x.ways(Integer.MIN_VALUE, 5, 0), -1);
        Check.is("all bits", x.ways(-1, 5, 0), -1);
        Check.is("six", x.ways(126, 5, 0), -1);
        Check.is("five", x.ways(62, 5, 0), 0);
        Check.is("n 0", x.ways(2, 0, 0), -1);
        Check.is("n 301", x.ways(2, 301, 0), -1);
        Check.is("n 300", x.ways(2, 300, 1), 0);
        Check.is("what 2", x.ways(2, 5, 2), -1);
        Check.is("what -1", x.ways(2, 5, -1), -1);
    }

    private static void waysFound() {
        MovingStairs x = twoHalls(9);
        x.link(0, 0, 1, 5, 0);
        Check.is("like ones: the lowest", x.ways(1, 9, 0), 0);
        Check.is("nobody waits", x.ways(1, 9, 1), 0);
        x.burst(0, 0, 0, 1, 3, false, false);
        Check.is("up", x.ways(1, 2, 0), 1);
        Check.is("two wait in the first second, none in the second", x.ways(1, 2, 1), 2);
        x.burst(0, 0, 1, 0, 4, false, false);
        Check.is("down", x.ways(1, 1, 0), 0);
        Check.is("six wait", x.ways(1, 1, 1), 6);
        x.turn(0, 0);
        Check.is("a stopped one", x.ways(1, 1, 1), 6);
        Check.is("stopped still", x.on(0, 2), 0);
    }

    private static void waysOfSeveral() {
        MovingStairs x = twoHalls(99);
        x.link(1, 0, 1, 5, 0);
        x.link(0, 0, 1, 4, 0);
        x.burst(0, 0, 0, 1, 9, false, false);
        x.burst(0, 0, 1, 0, 9, false, false);
        Check.is("fixed and stair: the stair up is the higher number", x.ways(3, 1, 0), 1);
        Check.is("2 of 9 and 1 of 9 are taken", x.ways(3, 1, 1), 15);
        x.link(0, 0, 1, 4, 0);
        Check.is("two stairs, one each way", x.ways(6, 3, 0), 2);
        Check.is("one stair alone", x.ways(4, 1, 0), 0);
    }

    private static void waysAsTurned() {
        MovingStairs x = twoHalls(99);
        x.link(0, 0, 1, 3, 0);
        x.burst(0, 0, 0, 1, 1, false, false);
        x.burst(1, 0, 1, 0, 2, false, false);
        x.run(1);
        Check.is("one is on it, so it can't turn at once", x.ways(1, 3, 1), 6);
        Check.is("like ones", x.ways(1, 3, 0), 0);
        Check.is("then it takes both", x.ways(1, 4, 1), 6);
    }

    private static void leastWrong() {
        MovingStairs x = twoHalls(9);
        Check.is("hall 2", x.least(2, 5, 0), -1);
        Check.is("hall -1", x.least(-1, 5, 0), -1);
        Check.is("n 0", x.least(0, 0, 0), -1);
        Check.is("n 301", x.least(0, 301, 0), -1);
        Check.is("what 2", x.least(0, 5, 2), -1);
        Check.is("what -1", x.least(0, 5, -1), -1);
        Check.is("nobody comes", x.least(0, 300, 0), 60);
        Check.is("never shut", x.least(0, 300, 1), 0);
    }

    private static void leastFound() {
        MovingStairs x = twoHalls(5);
        x.burst(0, 1, 0, 1, 1, false, true);
        x.burst(5, 0, 0, 1, 4, false, false);
        Check.is("ahead of the train", x.least(0, 5, 0), 60);
        Check.is("never shut", x.least(0, 5, 1), 0);
        Check.is("one and four have room", x.least(0, 10, 0), 1);
        Check.is("shut from second 1 on", x.least(0, 10, 1), 9);
        x.bar(0, 1);
        x.run(3);
        Check.is("shut so far", x.of(0, 2), 2);
        Check.is("only what comes is counted", x.least(0, 7, 1), 7);
        Check.is("by the other hall", x.least(1, 7, 0), 60);
        x.bar(0, 999);
        Check.is("two are outside", x.of(0, 1), 2);
        Check.is("then by the other hall none", x.least(1, 7, 0), -1);
        Check.is("nor its seconds", x.least(1, 7, 1), -1);
    }

    private static void leastByTrips() {
        MovingStairs x = new MovingStairs();
        x.hall(50);
        x.hall(2);
        x.hall(50);
        x.link(0, 0, 1, 2, 0);
        x.link(1, 1, 2, 2, 0);
        x.mode(0, 1);
        x.burst(0, 0, 0, 2, 40, false, true);
        Check.is("a crowd in the first second trips it", x.least(0, 9, 0), 0);
        Check.is("shut always", x.least(0, 9, 1), 9);
        Check.is("not yet", x.least(0, 3, 0), 60);
        x.run(9);
        Check.is("tripped", x.all(3), 1);
        Check.is("not anew", x.least(0, 9, 0), 60);
        Check.is("shut by 60", x.least(0, 9, 1), 0);
    }

    private static void leastNone() {
        MovingStairs x = twoHalls(5);
        x.burst(3, 0, 0, 1, 6, false, false);
        Check.is("over by a train", x.least(0, 4, 0), -1);
        Check.is("its seconds", x.least(0, 4, 1), -1);
        Check.is("ahead of it", x.least(0, 3, 0), 60);
        x.run(4);
        Check.is("over still", x.least(0, 1, 0), -1);
    }

    private static void feltWrong() {
        MovingStairs x = twoHalls(1);
        x.link(1, 0, 1, 5, 0);
        x.link(2, 0, 1, 5, 5);
        x.link(0, 0, 1, 5, 0);
        x.burst(0, 0, 0, 1, 2, false, false);
        Check.is("a fixed one", x.felt(0, 5), -1);
        Check.is("a lift", x.felt(1, 5), -1);
        Check.is("none", x.felt(3, 5), -1);
        Check.is("-1", x.felt(-1, 5), -1);
        Check.is("n 0", x.felt(2, 0), -1);
        Check.is("n 301", x.felt(2, 301), -1);
    }

    private static void feltFound() {
        MovingStairs x = twoHalls(3);
        x.link(0, 0, 1, 5, 0);
        x.burst(0, 1, 0, 1, 1, false, false);
        Check.is("in the fourth second", x.felt(0, 300), 3);
        Check.is("within four", x.felt(0, 4), 3);
        Check.is("not within three", x.felt(0, 3), -1);
        x.run(10);
        Check.is("it still goes", x.on(0, 2), 1);
        Check.is("later", x.felt(0, 300), 3);
        x.burst(10, 1, 1, 0, 2, false, false);
        Check.is("below is its foot", x.felt(0, 300), 3);
        x.turn(0, 2);
        Check.is("on it, it goes up", x.felt(0, 300), 3);
        MovingStairs y = twoHalls(3);
        y.link(0, 0, 1, 5, 0);
        y.turn(0, 2);
        y.burst(0, 1, 0, 1, 1, false, false);
        y.burst(0, 1, 1, 0, 2, false, false);
        Check.is("above is its foot", y.felt(0, 300), 1);
    }

    private static void standingWrong() {
        MovingStairs x = twoHalls(9);
        x.link(1, 0, 1, 5, 0);
        x.link(2, 0, 1, 5, 5);
        x.link(0, 0, 1, 5, 0);
        int no = -1000000;
        Check.is("a fixed one", x.standing(0, 5), no);
        Check.is("a lift", x.standing(1, 5), no);
        Check.is("none", x.standing(3, 5), no);
        Check.is("-1", x.standing(-1, 5), no);
        Check.is("n 0", x.standing(2, 0), no);
        Check.is("n 301", x.standing(2, 301), no);
        Check.is("nobody", x.standing(2, 300), 0);
    }

    private static void standingFound() {
        MovingStairs x = twoHalls(99);
        x.link(0, 0, 1, 10, 0);
        x.burst(0, 0, 0, 1, 50, false, false);
        Check.law(x, "walk 0;");
        Check.is("ten more", x.standing(0, 20), 10);
        Check.is("none is off yet", x.standing(0, 10), 0);
        x.mode(0, 1);
        Check.is("whatever it is now", x.standing(0, 20), 10);
        Check.is("its mode stays", x.on(0, 7), 1);
        Check.law(x, "walk 10;");
        Check.is("walkers are off sooner", x.standing(0, 9), -4);
    }

    private static MovingStairs busy() {
        MovingStairs x = twoHalls(4);
        x.link(0, 0, 1, 3, 0);
        x.burst(0, 2, 0, 1, 7, false, false);
        x.burst(0, 3, 0, 1, 2, false, true);
        Check.law(x, "back outside > 3;");
        x.run(7);
        return x;
    }

    private static void nothingChanges() {
        MovingStairs x = busy();
        MovingStairs y = busy();
        for (int turn = 0; turn < 2; turn++) {
            x.ways(1, 9, 0);
            x.least(0, 9, 0);
            x.felt(0, 9);
            x.standing(0, 9);
            x.alone(5, 5, 0, 99);
            x.crossing(5, 99);
            int[] seen = seen(x);
            int[] due = seen(y);
            for (int i = 0; i < due.length; i++) {
                Check.is("thing " + i, seen[i], due[i]);
            }
            x.run(5);
            y.run(5);
        }
        Check.is("the image too", x.back(), 0);
        Check.is("is that of a new object", x.about(1), 0);
    }

    private static int[] seen(MovingStairs x) {
        int[] seen = new int[38];
        int count = 0;
        for (int what = 0; what < 5; what++) {
            seen[count++] = x.of(0, what);
            seen[count++] = x.of(1, what);
        }
        for (int what = 0; what < 8; what++) {
            seen[count++] = x.on(0, what);
        }
        for (int step = 0; step < 3; step++) {
            seen[count++] = x.step(0, 0, step);
            seen[count++] = x.step(0, 1, step);
        }
        for (int what = 0; what < 10; what++) {
            seen[count++] = x.about(what);
        }
        for (int what = 0; what < 4; what++) {
            seen[count++] = x.all(what);
        }
        return seen;
    }

    private static void alone() {
        MovingStairs x = new MovingStairs();
        int[][] wrong = {
            {1, 5, 0, 9}, {41, 5, 0, 9}, {5, -1, 0, 9}, {5, 11, 0, 9}, {5, 11, 1, 9},
            {5, 5, 2, 9}, {5, 5, -1, 9}, {5, 5, 0, 0}, {5, 5, 0, 1000}, {5, 5, 0, Integer.MAX_VALUE},
        };
        for (int[] w : wrong) {
            Check.is("alone, wrong", x.alone(w[0], w[1], w[2], w[3]), -1);
        }
        Check.is("two standing each second", x.alone(10, 0, 1, 20), 20);
        Check.is("whatever w", x.alone(10, 10, 1, 20), 20);
        Check.is("one standing each second", x.alone(10, 0, 0, 20), 10);
        Check.is("not yet", x.alone(10, 0, 0, 10), 0);
        Check.is("the first", x.alone(10, 0, 0, 11), 1);
        Check.is("walkers, an even length", x.alone(10, 10, 0, 20), 15);
        Check.is("walkers, an odd length", x.alone(11, 10, 0, 20), 14);
        Check.is("half and half", x.alone(10, 5, 0, 20), 25);
        Check.is("the longest", x.alone(40, 0, 1, 999), 2 * 959);
    }

    private static void crossing() {
        MovingStairs x = new MovingStairs();
        Check.is("length 1", x.crossing(1, 9), -1);
        Check.is("length 41", x.crossing(41, 9), -1);
        Check.is("t 0", x.crossing(5, 0), -1);
        Check.is("t 1000", x.crossing(5, 1000), -1);
        Check.is("none is off", x.crossing(10, 10), 0);
        int w = x.crossing(10, 20);
        Check.is("carries as many", x.alone(10, w, 0, 20) >= x.alone(10, 0, 1, 20), true);
        Check.is("one less doesn't", x.alone(10, w - 1, 0, 20) < x.alone(10, 0, 1, 20), true);
        Check.is("as the document's own", x.crossing(2, 4), 4);
    }
}
