/** The edges that promises 15 to 19 and 35 name: what can be asked. */
final class EdgeQuestionTests {
    private static final int LOWEST = Edge.LOWEST;
    private static final int HIGHEST = Edge.HIGHEST;

    private EdgeQuestionTests() {
    }

    static void runAll() {
        othersOfHalls();
        goalsOfHalls();
        overNever();
        othersOnLinks();
        lifts();
        othersOfSteps();
        nobodyOnSteps();
        othersOfRoutes();
        halfRightRoutes();
        noRoute();
        routesNow();
        others();
        atMost();
        upToTheLastCall();
    }

    private static void othersOfHalls() {
        Edge.sentence("15: NONE for others.");
        for (int hall : new int[] {-1, 3, 4, 5, 6, LOWEST, HIGHEST}) {
            Edge.refused(-1, x -> x.of(hall, 0), x -> x.of(hall, 1), x -> x.of(hall, 2), x -> x.of(hall, 3),
                x -> x.of(hall, 4), x -> x.of(hall, 10), x -> x.of(hall, 20));
        }
        int[] wrong = {-1, -10, 5, 6, 7, 8, 9, 13, 14, 15, 16, 17, 18, 19, 23, 24, 25, 26, 27, 30, 100};
        for (int what : wrong) {
            Edge.refused(-1, x -> x.of(0, what), x -> x.of(1, what), x -> x.of(2, what));
        }
        Edge.refused(-1, x -> x.of(0, LOWEST), x -> x.of(0, LOWEST + 9), x -> x.of(0, LOWEST + 10),
            x -> x.of(0, LOWEST + 19), x -> x.of(0, LOWEST + 20), x -> x.of(0, HIGHEST), x -> x.of(0, HIGHEST - 1));
    }

    private static void goalsOfHalls() {
        Edge.sentence("15: 10 + goal: ABLE ones in it to that GOAL, 20 + goal: on WHEELS.");
        MovingStairs x = Edge.halls(999, 999, 999, 999, 999, 999);
        for (int goal = 0; goal < 6; goal++) {
            x.burst(0, 0, 2, goal, 1 + goal, false, false);
            x.burst(0, 0, 2, goal, 11 + goal, true, goal % 2 == 0);
        }
        x.run(1);
        for (int goal = 0; goal < 6; goal++) {
            Edge.is("able to " + goal, x.of(2, 10 + goal), goal == 2 ? 0 : 1 + goal);
            Edge.is("wheels to " + goal, x.of(2, 20 + goal), goal == 2 ? 0 : 11 + goal);
            Edge.is("able from 0 to " + goal, x.of(0, 10 + goal), 0);
        }
        Edge.is("all in it", x.of(2, 0), 18 + 68);
        Edge.is("able to 6", x.of(2, 16), -1);
        Edge.is("wheels to 6", x.of(2, 26), -1);
        Edge.is("wheels to -1", x.of(2, 19), -1);
        Edge.is("able to -1", x.of(2, 9), -1);
    }

    private static void overNever() {
        Edge.sentence("15: 3 OVER (NONE: never)");
        MovingStairs x = Edge.halls(3, 3, 3);
        x.burst(0, 0, 0, 1, 3, false, false);
        x.burst(0, 0, 1, 0, 4, false, false);
        x.burst(7, 0, 2, 0, 4, false, false);
        x.burst(0, 0, 2, 0, 3, false, false);
        x.run(7);
        Edge.is("as many as ROOM", x.of(0, 3), -1);
        Edge.is("one more in SECOND 0", x.of(1, 3), 0);
        Edge.is("not yet", x.of(2, 3), -1);
        x.run(1);
        Edge.is("in SECOND 7", x.of(2, 3), 7);
        x.back();
        x.hall(3);
        Edge.is("a new hall", x.of(0, 3), -1);
    }

    private static void othersOnLinks() {
        Edge.sentence("16: NONE for others.");
        for (int link : new int[] {-1, 4, 5, 9, 10, LOWEST, HIGHEST}) {
            Edge.refused(-1, x -> x.on(link, 0), x -> x.on(link, 1), x -> x.on(link, 2), x -> x.on(link, 3),
                x -> x.on(link, 4), x -> x.on(link, 5), x -> x.on(link, 6), x -> x.on(link, 7));
        }
        for (int link = 0; link < 4; link++) {
            int l = link;
            Edge.refused(-1, x -> x.on(l, -1), x -> x.on(l, 8), x -> x.on(l, 9), x -> x.on(l, LOWEST),
                x -> x.on(l, HIGHEST));
        }
    }

    private static void lifts() {
        Edge.sentence("16: 1 WAY (0 of LIFTS)");
        MovingStairs x = Edge.halls(9, 9);
        x.link(2, 0, 1, 2, 2);
        x.burst(0, 0, 0, 1, 5, true, false);
        x.run(3);
        Edge.is("WAY", x.on(0, 1), 0);
        Edge.is("nobody is on it", x.on(0, 0), 0);
        Edge.is("taken", x.on(0, 5), 4);
        Edge.is("off", x.on(0, 6), 4);
        Edge.is("TRIPPED", x.on(0, 3), 0);
    }

    private static void othersOfSteps() {
        Edge.sentence("17: NONE: nobody, and for others.");
        for (int link : new int[] {2, -1, 4, 9, 10, LOWEST, HIGHEST}) {
            Edge.refused(-1, x -> x.step(link, 0, 0), x -> x.step(link, 1, 0), x -> x.step(link, 0, 1));
        }
        for (int link : new int[] {0, 1, 3}) {
            Edge.refused(-1, x -> x.step(link, -1, 0), x -> x.step(link, 2, 0), x -> x.step(link, LOWEST, 0),
                x -> x.step(link, HIGHEST, 0), x -> x.step(link, 0, -1), x -> x.step(link, 1, -1),
                x -> x.step(link, 0, 4), x -> x.step(link, 1, 4), x -> x.step(link, 0, LOWEST),
                x -> x.step(link, 0, HIGHEST), x -> x.step(link, 0, 40), x -> x.step(link, 1, -40),
                x -> x.step(link, -1, 40), x -> x.step(link, 2, -80));
        }
        Edge.refused(-1, x -> x.step(0, 0, 3), x -> x.step(0, 1, 3), x -> x.step(1, 0, 2), x -> x.step(1, 1, 2));
    }

    private static void nobodyOnSteps() {
        Edge.sentence("17: Who is on a STEP (0 the first) and SIDE: GOAL, and 10 more if walking. NONE: nobody");
        MovingStairs x = Edge.halls(9, 9, 9, 9, 9, 99);
        x.link(0, 5, 0, 40, 0);
        x.burst(0, 0, 5, 0, 60, false, false);
        Check.law(x, "walk 5;");
        x.run(40);
        for (int step = 0; step < 40; step++) {
            Edge.is("stands on " + step, x.step(0, 0, step), step < 10 ? -1 : 0);
            boolean walks = step >= 20 && step % 2 == 0;
            Edge.is("walks on " + step, x.step(0, 1, step), walks ? 10 : -1);
        }
        MovingStairs y = Edge.halls(9, 9, 9, 9, 9, 99);
        y.link(0, 0, 5, 40, 0);
        y.burst(0, 1, 0, 5, 2, false, false);
        Check.law(y, "walk 5;");
        y.run(40);
        for (int step = 0; step < 40; step++) {
            Edge.is("stands on " + step, y.step(0, 0, step), 5);
            Edge.is("walks on " + step, y.step(0, 1, step), step % 2 == 0 ? 15 : -1);
        }
        Edge.is("left by the right's numbers", y.step(0, 0, 40), -1);
        Edge.is("right by the left's numbers", y.step(0, 1, -1), -1);
    }

    private static void othersOfRoutes() {
        Edge.sentence("18: NONE: none, and for others.");
        for (boolean wheels : new boolean[] {false, true}) {
            Edge.refused(-1, x -> x.route(-1, 0, wheels), x -> x.route(0, -1, wheels), x -> x.route(3, 0, wheels),
                x -> x.route(0, 3, wheels), x -> x.route(6, 0, wheels), x -> x.route(0, 6, wheels),
                x -> x.route(LOWEST, 0, wheels), x -> x.route(0, LOWEST, wheels), x -> x.route(HIGHEST, 0, wheels),
                x -> x.route(0, HIGHEST, wheels), x -> x.route(0, 0, wheels), x -> x.route(2, 2, wheels),
                x -> x.route(-1, -1, wheels), x -> x.route(3, 3, wheels), x -> x.route(1, -4, wheels),
                x -> x.route(-1, 8, wheels), x -> x.route(0, 12, wheels));
        }
    }

    private static void halfRightRoutes() {
        Edge.sentence("18: NONE for others (one HALL is right, the other isn't).");
        MovingStairs x = Edge.halls(9, 9, 9, 9, 9, 9);
        for (int i = 0; i < 5; i++) {
            x.link(i % 2 * 2, i, i + 1, 2, 2);
            x.link(i % 2 * 2, i + 1, i, 2, 2);
        }
        for (int hall = 0; hall < 6; hall++) {
            for (int wrong : new int[] {-1, -2, -6, -7, 6, 7, 12, 13, 36, -36, LOWEST, HIGHEST}) {
                for (int wheels = 0; wheels < 2; wheels++) {
                    Edge.is("from " + wrong, x.route(wrong, hall, wheels == 1), -1);
                    Edge.is("to " + wrong, x.route(hall, wrong, wheels == 1), -1);
                }
            }
        }
    }

    private static void noRoute() {
        Edge.sentence("18: NONE: none");
        MovingStairs x = Edge.halls(9, 9, 9);
        Edge.is("without links", x.route(0, 1, false), -1);
        x.link(0, 0, 1, 5, 0);
        x.link(2, 1, 2, 5, 5);
        Edge.is("able ones don't go by lifts", x.route(1, 2, false), -1);
        Edge.is("nor beyond", x.route(0, 2, false), -1);
        Edge.is("wheels don't go by stairs", x.route(0, 1, true), -1);
        Edge.is("nor beyond", x.route(0, 2, true), -1);
        Edge.is("against its WAY", x.route(1, 0, false), -1);
        Edge.is("lifts go up", x.route(1, 2, true), 1);
        Edge.is("and down", x.route(2, 1, true), 1);
    }

    private static void routesNow() {
        Edge.sentence("18: as LINKS are now.");
        MovingStairs x = Edge.halls(9, 9);
        x.link(0, 0, 1, 2, 0);
        x.burst(0, 0, 0, 1, 1, false, false);
        x.run(1);
        x.turn(0, 2);
        x.run(2);
        Edge.is("empty, but not turned yet", x.on(0, 0) * 10 + x.on(0, 1), 1);
        Edge.is("so it takes nobody up", x.route(0, 1, false), -1);
        Edge.is("nor down", x.route(1, 0, false), -1);
        x.run(1);
        Edge.is("turned", x.route(1, 0, false), 0);
        x.turn(0, 0);
        Edge.is("stopped", x.route(1, 0, false), -1);
        x.image();
        x.link(0, 0, 1, 5, 0);
        Edge.is("another one", x.route(0, 1, false), 1);
        x.back();
        Edge.is("which is gone", x.route(0, 1, false), -1);
        x.link(1, 1, 0, 5, 0);
        Edge.is("one in its place", x.route(0, 1, false), -1);
        Edge.is("the other way", x.route(1, 0, false), 1);
        x.back();
        x.link(0, 0, 1, 5, 0);
        Edge.is("and the first again, at once", x.route(0, 1, false), 1);
    }

    private static void others() {
        Edge.sentence("19 and 35: NONE for others.");
        Edge.refused(-1, x -> x.all(-1), x -> x.all(4), x -> x.all(5), x -> x.all(LOWEST), x -> x.all(HIGHEST),
            x -> x.about(-1), x -> x.about(10), x -> x.about(11), x -> x.about(LOWEST), x -> x.about(HIGHEST));
    }

    private static void atMost() {
        Edge.sentence("35: 0 the SECOND, 1 HALLS, 2 LINKS, 3 BURSTS, 4 TEXTS, 5 THE TEXT, 6 DAYS, 7 MENDS, 8 LOADS, 9");
        MovingStairs x = new MovingStairs();
        x.run(17);
        for (int i = 0; i < 60; i++) {
            if (i < 7) {
                x.hall(9);
            }
            if (i < 15) {
                x.link(0, 0, 1, 5, 0);
            }
            if (i < 32) {
                x.burst(99999, 0, 0, 1, 1, false, false);
            }
            if (i < 5) {
                x.end(0);
                x.text();
            }
            if (i < 42) {
                x.day(true, 0, 0);
            }
            if (i < 8) {
                x.mend(0, 0, 0, 1);
            }
            x.load(0);
            x.feed(i, i, i, i, i);
        }
        x.load(0);
        x.by(3);
        int[] due = {17, 6, 10, 30, 4, 3, 40, 6, 60, 300};
        for (int what = 0; what < due.length; what++) {
            Edge.is("about " + what, x.about(what), due[what]);
        }
    }

    private static void upToTheLastCall() {
        Edge.sentence("An object is used for at most 512 calls after it has been made");
        MovingStairs x = Edge.halls(9, 9);
        x.burst(100, 0, 0, 1, 3, false, false);
        for (int i = 3; i < 510; i++) {
            x.run(1);
        }
        Edge.is("the 511th", x.of(0, 0), 3);
        Edge.is("the 512th", x.run(1), 508);
    }
}
