/** Promises 1 to 8, 15 to 18 and 35: what is told, and what is wrong to tell. */
final class TellingTests {
    private static final int LOWEST = Integer.MIN_VALUE;
    private static final int HIGHEST = Integer.MAX_VALUE;

    private TellingTests() {
    }

    static void runAll() {
        newObject();
        halls();
        bars();
        links();
        linksFull();
        turnsOfEmptyOnes();
        modes();
        resets();
        bursts();
        askedOfHalls();
        askedOfLinks();
        askedOfSteps();
        routesAsked();
        wrongQuestions();
    }

    private static void newObject() {
        MovingStairs x = new MovingStairs();
        Check.is("NONE", MovingStairs.NONE, -1);
        for (int what = 0; what <= 9; what++) {
            Check.is("new about " + what, x.about(what), what == 5 ? -1 : 0);
        }
        for (int what = 0; what <= 3; what++) {
            Check.is("new all " + what, x.all(what), 0);
        }
        x.hall(5);
        x.hall(5);
        x.link(0, 0, 1, 5, 0);
        x.burst(0, 1, 0, 1, 3, false, false);
        x.day(true, 0, 0);
        x.mend(1, 1, 1, 1);
        x.load(1);
        Check.law(x, "walk 1;");
        x.run(7);
        Check.is("back to the new one", x.back(), 0);
        for (int what = 0; what <= 9; what++) {
            Check.is("about behind back " + what, x.about(what), what == 5 ? -1 : 0);
        }
        for (int what = 0; what <= 3; what++) {
            Check.is("all behind back " + what, x.all(what), 0);
        }
    }

    private static void halls() {
        MovingStairs x = new MovingStairs();
        int[] wrong = {0, -1, 1000, LOWEST, HIGHEST};
        for (int room : wrong) {
            Check.is("hall of " + room, x.hall(room), -1);
        }
        Check.is("halls", x.about(1), 0);
        Check.is("least room", x.hall(1), 0);
        Check.is("greatest room", x.hall(999), 1);
        for (int i = 2; i < 6; i++) {
            Check.is("hall", x.hall(10), i);
        }
        Check.is("seventh hall", x.hall(10), -1);
        Check.is("halls", x.about(1), 6);
    }

    private static void bars() {
        MovingStairs x = new MovingStairs();
        Check.is("bar without halls", x.bar(0, 3), false);
        x.hall(7);
        Check.is("bar at first", x.of(0, 4), 999);
        Check.is("bar 0", x.bar(0, 0), true);
        Check.is("bar is 0", x.of(0, 4), 0);
        Check.is("bar 999", x.bar(0, 999), true);
        Check.is("bar 1000", x.bar(0, 1000), false);
        Check.is("bar -1", x.bar(0, -1), false);
        Check.is("bar of hall 1", x.bar(1, 3), false);
        Check.is("bar of hall -1", x.bar(-1, 3), false);
        Check.is("bar of lowest", x.bar(LOWEST, 3), false);
        Check.is("bar is 999", x.of(0, 4), 999);
    }

    private static void links() {
        MovingStairs x = new MovingStairs();
        Check.is("link without halls", x.link(0, 0, 1, 5, 0), -1);
        x.hall(5);
        x.hall(5);
        int[][] wrong = {
            {-1, 0, 1, 5, 5}, {3, 0, 1, 5, 5}, {0, 0, 0, 5, 5}, {0, 0, 2, 5, 5}, {0, -1, 1, 5, 5},
            {0, 0, 1, 1, 0}, {0, 0, 1, 41, 0}, {1, 0, 1, 1, 0}, {1, 0, 1, 41, 0},
            {2, 0, 1, 0, 5}, {2, 0, 1, 21, 5}, {2, 0, 1, 5, 1}, {2, 0, 1, 5, 100},
            {LOWEST, HIGHEST, LOWEST, HIGHEST, LOWEST}, {0, 0, 1, HIGHEST, 0}, {0, 0, 1, LOWEST, 0},
        };
        for (int[] w : wrong) {
            Check.is("wrong link", x.link(w[0], w[1], w[2], w[3], w[4]), -1);
        }
        Check.is("no links", x.about(2), 0);
        Check.is("shortest stair, any cycle", x.link(0, 0, 1, 2, -7), 0);
        Check.is("longest stair down in its numbers", x.link(0, 1, 0, 40, 0), 1);
        Check.is("shortest fixed", x.link(1, 0, 1, 2, 1000), 2);
        Check.is("longest fixed", x.link(1, 0, 1, 40, 0), 3);
        Check.is("least lift", x.link(2, 0, 1, 1, 2), 4);
        Check.is("greatest lift", x.link(2, 0, 1, 20, 99), 5);
    }

    private static void linksFull() {
        MovingStairs x = new MovingStairs();
        x.hall(5);
        x.hall(5);
        for (int i = 0; i < 10; i++) {
            Check.is("link", x.link(0, 0, 1, 5, 0), i);
        }
        Check.is("eleventh link", x.link(0, 0, 1, 5, 0), -1);
        Check.is("links", x.about(2), 10);
    }

    private static void turnsOfEmptyOnes() {
        MovingStairs x = new MovingStairs();
        x.hall(5);
        x.hall(5);
        x.link(0, 0, 1, 5, 0);
        x.link(1, 0, 1, 5, 0);
        x.link(2, 0, 1, 5, 5);
        for (int link = 0; link < 2; link++) {
            Check.is("turn to 0", x.turn(link, 0), true);
            Check.is("stopped", x.on(link, 2), 0);
            Check.is("way stays", x.on(link, 1), 1);
            Check.is("wanted stays", x.on(link, 4), 1);
            Check.is("turn to 2", x.turn(link, 2), true);
            Check.is("goes", x.on(link, 2), 1);
            Check.is("way", x.on(link, 1), 2);
            Check.is("wanted", x.on(link, 4), 2);
            Check.is("turn to 3", x.turn(link, 3), false);
            Check.is("turn to -1", x.turn(link, -1), false);
        }
        for (int way = 0; way < 3; way++) {
            Check.is("lifts aren't turned", x.turn(2, way), false);
        }
        Check.is("turn of link 3", x.turn(3, 1), false);
        Check.is("turn of link -1", x.turn(-1, 1), false);
        Check.is("turn of highest", x.turn(HIGHEST, 1), false);
    }

    private static void modes() {
        MovingStairs x = new MovingStairs();
        x.hall(5);
        x.hall(5);
        x.link(0, 0, 1, 5, 0);
        x.link(1, 0, 1, 5, 0);
        x.link(2, 0, 1, 5, 5);
        Check.is("mode at first", x.on(0, 7), 0);
        Check.is("mode 1", x.mode(0, 1), true);
        Check.is("mode is 1", x.on(0, 7), 1);
        Check.is("mode 2", x.mode(0, 2), false);
        Check.is("mode -1", x.mode(0, -1), false);
        Check.is("mode is 1 still", x.on(0, 7), 1);
        Check.is("mode 0", x.mode(0, 0), true);
        Check.is("mode is 0", x.on(0, 7), 0);
        Check.is("mode of a fixed one", x.mode(1, 1), false);
        Check.is("mode of a lift", x.mode(2, 0), false);
        Check.is("mode of none", x.mode(3, 0), false);
        Check.is("mode of lowest", x.mode(LOWEST, 0), false);
    }

    private static void resets() {
        MovingStairs x = new MovingStairs();
        Check.is("reset of none", x.reset(0), false);
        x.hall(5);
        x.hall(5);
        x.link(0, 0, 1, 5, 0);
        Check.is("reset of one that isn't tripped", x.reset(0), false);
        x.turn(0, 0);
        Check.is("reset of a stopped one", x.reset(0), false);
        Check.is("reset of -1", x.reset(-1), false);
        Check.is("stopped still", x.on(0, 2), 0);
    }

    private static void bursts() {
        MovingStairs x = new MovingStairs();
        Check.is("burst without halls", x.burst(0, 0, 0, 1, 1, false, false), -1);
        x.hall(5);
        x.hall(5);
        int[][] wrong = {
            {-1, 0, 0, 1, 1}, {100000, 0, 0, 1, 1}, {0, -1, 0, 1, 1}, {0, 1000, 0, 1, 1},
            {0, 0, 0, 0, 1}, {0, 0, 2, 1, 1}, {0, 0, 0, 2, 1}, {0, 0, -1, 1, 1}, {0, 0, 0, -1, 1},
            {0, 0, 0, 1, 0}, {0, 0, 0, 1, 201}, {LOWEST, LOWEST, LOWEST, LOWEST, LOWEST},
        };
        for (int[] w : wrong) {
            Check.is("wrong burst", x.burst(w[0], w[1], w[2], w[3], w[4], true, true), -1);
        }
        Check.is("least burst", x.burst(0, 0, 0, 1, 1, false, false), 1);
        Check.is("greatest burst", x.burst(99999, 999, 1, 0, 200, true, true), 2);
        for (int i = 3; i <= 30; i++) {
            Check.is("burst", x.burst(5, 0, 0, 1, 1, false, false), i);
        }
        Check.is("31st burst", x.burst(5, 0, 0, 1, 1, false, false), -1);
        Check.is("bursts", x.about(3), 30);
    }

    private static void askedOfHalls() {
        MovingStairs x = new MovingStairs();
        Check.is("of no hall", x.of(0, 0), -1);
        x.hall(5);
        x.hall(5);
        x.burst(0, 0, 0, 1, 4, false, false);
        x.burst(0, 0, 0, 1, 3, true, false);
        x.run(1);
        Check.is("in it", x.of(0, 0), 7);
        Check.is("outside", x.of(0, 1), 0);
        Check.is("shut seconds", x.of(0, 2), 0);
        Check.is("over", x.of(0, 3), 0);
        Check.is("never over", x.of(1, 3), -1);
        Check.is("able to 1", x.of(0, 11), 4);
        Check.is("wheels to 1", x.of(0, 21), 3);
        Check.is("able to itself", x.of(0, 10), 0);
        Check.is("wheels to itself", x.of(0, 20), 0);
        Check.is("able to no hall", x.of(0, 12), -1);
        Check.is("wheels to no hall", x.of(0, 22), -1);
        int[] wrong = {-1, 5, 9, 16, 19, 26, 30, LOWEST, HIGHEST};
        for (int what : wrong) {
            Check.is("of 0, " + what, x.of(0, what), -1);
        }
        Check.is("of hall 2", x.of(2, 0), -1);
        Check.is("of hall -1", x.of(-1, 0), -1);
    }

    private static void askedOfLinks() {
        MovingStairs x = new MovingStairs();
        Check.is("on no link", x.on(0, 0), -1);
        x.hall(5);
        x.hall(5);
        x.link(0, 0, 1, 5, 0);
        x.link(1, 0, 1, 5, 0);
        x.link(2, 0, 1, 5, 5);
        int[] stepped = {0, 1, 1, 0, 1, 0, 0, 0};
        int[] lift = {0, 0, 1, 0, 0, 0, 0, 0};
        for (int what = 0; what < 8; what++) {
            Check.is("on a stair " + what, x.on(0, what), stepped[what]);
            Check.is("on a fixed one " + what, x.on(1, what), stepped[what]);
            Check.is("on a lift " + what, x.on(2, what), lift[what]);
        }
        Check.is("on 0, 8", x.on(0, 8), -1);
        Check.is("on 0, -1", x.on(0, -1), -1);
        Check.is("on link 3", x.on(3, 0), -1);
        Check.is("on link -1", x.on(-1, 0), -1);
    }

    private static void askedOfSteps() {
        MovingStairs x = new MovingStairs();
        Check.is("step of no link", x.step(0, 0, 0), -1);
        x.hall(5);
        x.hall(5);
        x.link(0, 0, 1, 3, 0);
        x.link(2, 0, 1, 5, 5);
        x.mode(0, 1);
        x.burst(0, 0, 0, 1, 2, false, false);
        x.run(1);
        Check.is("first step, right", x.step(0, 0, 0), 1);
        Check.is("first step, left", x.step(0, 1, 0), 1);
        Check.is("second step", x.step(0, 0, 1), -1);
        Check.is("behind the last step", x.step(0, 0, 3), -1);
        Check.is("step -1", x.step(0, 0, -1), -1);
        Check.is("side 2", x.step(0, 2, 0), -1);
        Check.is("side -1", x.step(0, -1, 0), -1);
        Check.is("step of a lift", x.step(1, 0, 0), -1);
        Check.is("step of highest", x.step(HIGHEST, HIGHEST, HIGHEST), -1);
        x.link(0, 0, 1, 40, 0);
        x.mode(2, 1);
        x.turn(0, 0);
        x.burst(1, 0, 0, 1, 2, false, false);
        x.run(1);
        Check.is("left of the longest", x.step(2, 1, 0), 1);
        Check.is("behind the last of the longest", x.step(2, 0, 40), -1);
        Check.is("right by the left", x.step(2, 1, -40), -1);
        Check.is("no side by the right", x.step(2, -1, 40), -1);
        x.turn(0, 1);
        x.run(2);
        Check.is("last step, right", x.step(0, 0, 2), 1);
        Check.is("last step, left", x.step(0, 1, 2), 1);
    }

    private static void routesAsked() {
        MovingStairs x = new MovingStairs();
        for (int i = 0; i < 4; i++) {
            x.hall(5);
        }
        x.link(0, 0, 1, 10, 0);
        x.link(0, 1, 2, 10, 0);
        x.link(0, 0, 2, 21, 0);
        x.link(0, 0, 1, 10, 0);
        x.link(2, 0, 2, 5, 30);
        x.link(2, 0, 1, 5, 10);
        x.link(2, 1, 2, 5, 20);
        Check.is("two short ones", x.route(0, 2, false), 0);
        Check.is("up only", x.route(2, 0, false), -1);
        Check.is("no way", x.route(0, 3, false), -1);
        Check.is("itself", x.route(0, 0, false), -1);
        Check.is("lifts, like ones", x.route(0, 2, true), 4);
        Check.is("lifts go both ways", x.route(2, 1, true), 6);
        Check.is("hall 4", x.route(4, 0, true), -1);
        Check.is("goal 4", x.route(0, 4, true), -1);
        Check.is("hall -1", x.route(-1, 0, true), -1);
        Check.is("goal 8", x.route(0, 8, false), -1);
        Check.is("goal -4", x.route(1, -4, false), -1);
        x.turn(0, 0);
        Check.is("a stopped one isn't gone by", x.route(0, 2, false), 3);
        x.turn(3, 2);
        Check.is("the long one", x.route(0, 2, false), 2);
        Check.is("one that was turned", x.route(1, 0, false), 3);
        x.link(1, 0, 1, 5, 0);
        Check.is("a fixed one of twice its length", x.route(0, 2, false), 7);
        x.link(1, 0, 2, 10, 0);
        Check.is("like ones: the lowest", x.route(0, 2, false), 7);
        x.turn(7, 0);
        Check.is("a straight one", x.route(0, 2, false), 8);
    }

    private static void wrongQuestions() {
        MovingStairs x = new MovingStairs();
        int[] wrong = {-1, 10, LOWEST, HIGHEST};
        for (int what : wrong) {
            Check.is("about " + what, x.about(what), -1);
        }
        Check.is("all -1", x.all(-1), -1);
        Check.is("all 4", x.all(4), -1);
    }
}
