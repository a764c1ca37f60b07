/** The edges that promises 1 to 8 name: what can just be told, and what just can't. */
final class EdgeTellingTests {
    private static final int LOWEST = Edge.LOWEST;
    private static final int HIGHEST = Edge.HIGHEST;

    private EdgeTellingTests() {
    }

    static void runAll() {
        newObject();
        secondsWithoutAnything();
        rooms();
        sixHalls();
        bars();
        barAtFirst();
        linkKinds();
        linkEnds();
        linkSizes();
        linkCycles();
        tenLinks();
        turns();
        modes();
        resets();
        burstTimes();
        burstPlaces();
        burstSizes();
        thirtyBursts();
    }

    private static void newObject() {
        Edge.sentence("1: No HALLS, LINKS, TEXTS; SECOND 0; THE IMAGE is this.");
        MovingStairs x = new MovingStairs();
        for (int i = 0; i < 10; i++) {
            Edge.is("about " + i, x.about(i), i == 5 ? -1 : 0);
            Edge.is("of " + i, x.of(i, 0), -1);
            Edge.is("on " + i, x.on(i, 0), -1);
            Edge.is("step of " + i, x.step(i, 0, 0), -1);
            Edge.is("bar of " + i, x.bar(i, 5), false);
            Edge.is("turn of " + i, x.turn(i, 1), false);
            Edge.is("mode of " + i, x.mode(i, 1), false);
            Edge.is("reset of " + i, x.reset(i), false);
            Edge.is("by " + i, x.by(i), false);
            Edge.is("ways of " + i, x.ways(1 << i, 5, 0), -1);
            Edge.is("least of " + i, x.least(i, 5, 0), -1);
            Edge.is("felt of " + i, x.felt(i, 5), -1);
            Edge.is("standing of " + i, x.standing(i, 5), -1000000);
            Edge.is("order " + i, x.order(i), -1);
        }
        Edge.is("route", x.route(0, 1, false), -1);
        Edge.is("burst", x.burst(0, 0, 0, 1, 1, false, false), -1);
        Edge.is("link", x.link(0, 0, 1, 5, 0), -1);
        Edge.is("how many mends count", x.order(-1), -1);
        Edge.is("effect", x.effect(), -1000000000);
        Edge.is("taken", x.taken(2, false), -1);
        Edge.is("unload", x.unload(), 0);
        Edge.is("fault", x.fault(0), -1);
        Edge.is("its place", x.fault(1), -1);
        Edge.is("back at once", x.back(), 0);
        Edge.is("image at once", x.image(), 0);
    }

    private static void secondsWithoutAnything() {
        Edge.sentence("1: No HALLS, LINKS, TEXTS; SECOND 0; THE IMAGE is this. (and then RUN)");
        MovingStairs x = new MovingStairs();
        Edge.is("run 300", x.run(300), 300);
        for (int what = 0; what < 4; what++) {
            Edge.is("all " + what, x.all(what), 0);
        }
        Edge.is("back", x.back(), 0);
        Edge.is("run 1", x.run(1), 1);
        Edge.is("image", x.image(), 1);
        Edge.is("a first hall", x.hall(1), 0);
        Edge.is("back to SECOND 1", x.back(), 1);
        Edge.is("no halls", x.about(1), 0);
        Edge.is("the hall is no more", x.of(0, 0), -1);
        Edge.is("a first hall again", x.hall(2), 0);
    }

    private static void rooms() {
        Edge.sentence("2: ROOM (1 .. 999). NONE for others.");
        Edge.refused(-1, x -> x.hall(0), x -> x.hall(-1), x -> x.hall(1000), x -> x.hall(1001),
            x -> x.hall(LOWEST), x -> x.hall(HIGHEST), x -> x.hall(65537), x -> x.hall(LOWEST + 1));
        MovingStairs x = Edge.halls(1, 999);
        Edge.is("both are told", x.about(1), 2);
        x.burst(0, 0, 0, 1, 2, false, true);
        for (int i = 0; i < 5; i++) {
            x.burst(0, 0, 1, 0, 200, false, true);
        }
        x.run(1);
        Edge.is("in the one of ROOM 1", x.of(0, 0), 1);
        Edge.is("outside of it", x.of(0, 1), 1);
        Edge.is("in the one of ROOM 999", x.of(1, 0), 999);
        Edge.is("outside of it", x.of(1, 1), 1);
    }

    private static void sixHalls() {
        Edge.sentence("2: NONE if there are 6.");
        MovingStairs x = Edge.halls(5, 5, 5, 5, 5);
        Edge.is("the sixth", x.hall(7), 5);
        Edge.is("the seventh", x.hall(7), -1);
        Edge.is("a wrong one then", x.hall(0), -1);
        Edge.is("six", x.about(1), 6);
        x.burst(0, 0, 5, 0, 8, false, true);
        x.run(1);
        Edge.is("the sixth has its ROOM", x.of(5, 0), 7);
        Edge.is("hall 6", x.of(6, 0), -1);
        Edge.is("bar of the sixth", x.bar(5, 1), true);
        Edge.is("bar of hall 6", x.bar(6, 1), false);
        x.image();
        Edge.is("the seventh behind an image", x.hall(7), -1);
        x.back();
        Edge.is("six behind going back", x.about(1), 6);
    }

    private static void bars() {
        Edge.sentence("3: BAR (0 .. 999) of a HALL. False for others.");
        Edge.refused(0, x -> Edge.bit(x.bar(0, -1)), x -> Edge.bit(x.bar(0, 1000)),
            x -> Edge.bit(x.bar(2, 1000)), x -> Edge.bit(x.bar(0, LOWEST)), x -> Edge.bit(x.bar(0, HIGHEST)),
            x -> Edge.bit(x.bar(-1, 5)), x -> Edge.bit(x.bar(3, 5)), x -> Edge.bit(x.bar(5, 5)),
            x -> Edge.bit(x.bar(6, 5)), x -> Edge.bit(x.bar(LOWEST, 5)), x -> Edge.bit(x.bar(HIGHEST, 5)));
        MovingStairs x = Edge.halls(9, 9);
        for (int v : new int[] {0, 1, 998, 999}) {
            Edge.is("bar " + v, x.bar(1, v), true);
            Edge.is("bar is " + v, x.of(1, 4), v);
            Edge.is("the other one's", x.of(0, 4), 999);
        }
    }

    private static void barAtFirst() {
        Edge.sentence("Terms: BAR (0 .. 999; at first 999)");
        MovingStairs x = Edge.halls(999, 999, 9);
        for (int i = 0; i < 5; i++) {
            x.burst(0, 0, 0, 1, i == 0 ? 198 : 200, false, false);
            x.burst(0, 0, 1, 0, i == 0 ? 199 : 200, false, false);
        }
        x.run(2);
        Edge.is("998 are below it", x.of(0, 2), 0);
        Edge.is("999 are not", x.of(1, 2), 2);
        x.bar(2, 5);
        x.back();
        Edge.is("a hall told in place of another", x.hall(9), 0);
        x.hall(9);
        x.hall(9);
        Edge.is("has it too", x.of(2, 4), 999);
    }

    private static void linkKinds() {
        Edge.sentence("4: A LINK (STAIR 0, FIXED 1, LIFT 2). NONE for others.");
        Edge.refused(-1, x -> x.link(-1, 0, 1, 5, 5), x -> x.link(3, 0, 1, 5, 5), x -> x.link(4, 0, 1, 5, 5),
            x -> x.link(LOWEST, 0, 1, 5, 5), x -> x.link(HIGHEST, 0, 1, 5, 5), x -> x.link(256, 0, 1, 5, 5));
        MovingStairs x = Edge.halls(9, 9);
        for (int kind = 0; kind < 3; kind++) {
            Edge.is("kind " + kind, x.link(kind, 0, 1, 5, 5), kind);
            Edge.is("its WAY", x.on(kind, 1), kind == 2 ? 0 : 1);
        }
        Edge.is("three", x.about(2), 3);
    }

    private static void linkEnds() {
        Edge.sentence("4: from a LOW HALL to a HIGH one (unlike). NONE for others.");
        for (int kind = 0; kind < 3; kind++) {
            int k = kind;
            Edge.refused(-1, x -> x.link(k, 0, 0, 5, 5), x -> x.link(k, 2, 2, 5, 5), x -> x.link(k, 3, 3, 5, 5),
                x -> x.link(k, -1, -1, 5, 5), x -> x.link(k, -1, 1, 5, 5), x -> x.link(k, 3, 1, 5, 5),
                x -> x.link(k, 5, 1, 5, 5), x -> x.link(k, 6, 1, 5, 5), x -> x.link(k, LOWEST, 1, 5, 5),
                x -> x.link(k, HIGHEST, 1, 5, 5), x -> x.link(k, 0, -1, 5, 5), x -> x.link(k, 0, 3, 5, 5),
                x -> x.link(k, 0, 5, 5, 5), x -> x.link(k, 0, 6, 5, 5), x -> x.link(k, 0, LOWEST, 5, 5),
                x -> x.link(k, 0, HIGHEST, 5, 5));
        }
        MovingStairs x = Edge.halls(9, 9, 9, 9, 9, 9);
        Edge.is("from the first to the last", x.link(0, 0, 5, 2, 0), 0);
        Edge.is("LOW may be the higher number", x.link(0, 5, 0, 2, 0), 1);
        Edge.is("two between the same", x.link(0, 5, 0, 2, 0), 2);
        Edge.is("up from 5 to 0", x.route(5, 0, false), 1);
        Edge.is("up from 0 to 5", x.route(0, 5, false), 0);
    }

    private static void linkSizes() {
        Edge.sentence("4: LENGTH n (2 .. 40 STEPS), CAPACITY (1 .. 20). NONE for others.");
        Edge.refused(-1, x -> x.link(0, 0, 1, 1, 5), x -> x.link(0, 0, 1, 0, 5), x -> x.link(0, 0, 1, 41, 5),
            x -> x.link(0, 0, 1, -2, 5), x -> x.link(0, 0, 1, LOWEST, 5), x -> x.link(0, 0, 1, HIGHEST, 5),
            x -> x.link(1, 0, 1, 1, 5), x -> x.link(1, 0, 1, 0, 5), x -> x.link(1, 0, 1, 41, 5),
            x -> x.link(1, 0, 1, -2, 5), x -> x.link(1, 0, 1, LOWEST, 5), x -> x.link(1, 0, 1, HIGHEST, 5),
            x -> x.link(2, 0, 1, 0, 5), x -> x.link(2, 0, 1, 21, 5), x -> x.link(2, 0, 1, 40, 5),
            x -> x.link(2, 0, 1, -1, 5), x -> x.link(2, 0, 1, LOWEST, 5), x -> x.link(2, 0, 1, HIGHEST, 5));
        MovingStairs x = Edge.halls(9, 9);
        Edge.is("STAIR of 2", x.link(0, 0, 1, 2, 0), 0);
        Edge.is("STAIR of 40", x.link(0, 0, 1, 40, 0), 1);
        Edge.is("FIXED of 2", x.link(1, 0, 1, 2, 0), 2);
        Edge.is("FIXED of 40", x.link(1, 0, 1, 40, 0), 3);
        Edge.is("LIFT for 1", x.link(2, 0, 1, 1, 5), 4);
        Edge.is("LIFT for 20", x.link(2, 0, 1, 20, 5), 5);
    }

    private static void linkCycles() {
        Edge.sentence("4: CYCLE (2 .. 99); cycle is not asked but of LIFTS.");
        Edge.refused(-1, x -> x.link(2, 0, 1, 5, 1), x -> x.link(2, 0, 1, 5, 0), x -> x.link(2, 0, 1, 5, -1),
            x -> x.link(2, 0, 1, 5, 100), x -> x.link(2, 0, 1, 5, LOWEST), x -> x.link(2, 0, 1, 5, HIGHEST));
        MovingStairs x = Edge.halls(9, 9);
        Edge.is("CYCLE 2", x.link(2, 0, 1, 5, 2), 0);
        Edge.is("CYCLE 99", x.link(2, 0, 1, 5, 99), 1);
        int[] any = {0, 1, 100, -1, LOWEST, HIGHEST};
        for (int i = 0; i < any.length; i++) {
            Edge.is("any of " + i, x.link(i % 2, 0, 1, 5, any[i]), 2 + i);
        }
    }

    private static void tenLinks() {
        Edge.sentence("4: NONE if there are 10.");
        MovingStairs x = Edge.halls(9, 9);
        for (int i = 0; i < 9; i++) {
            x.link(0, 0, 1, 40, 0);
        }
        Edge.is("the tenth", x.link(0, 1, 0, 2, 0), 9);
        Edge.is("an eleventh stair", x.link(0, 0, 1, 5, 0), -1);
        Edge.is("an eleventh fixed one", x.link(1, 0, 1, 5, 0), -1);
        Edge.is("an eleventh lift", x.link(2, 0, 1, 5, 5), -1);
        Edge.is("ten", x.about(2), 10);
        x.burst(0, 0, 1, 0, 1, false, false);
        x.run(1);
        Edge.is("the tenth takes", x.on(9, 5), 1);
        Edge.is("and has STEPS", x.step(9, 0, 0), 0);
        Edge.is("it is turned", x.turn(9, 0), true);
        Edge.is("it has a mode", x.mode(9, 1), true);
        Edge.is("link 10", x.on(10, 0), -1);
        Edge.is("turn of 10", x.turn(10, 1), false);
        Edge.is("mode of 10", x.mode(10, 1), false);
        Edge.is("reset of 10", x.reset(10), false);
        Edge.is("step of 10", x.step(10, 0, 0), -1);
    }

    private static void turns() {
        Edge.sentence("5: A STAIR or FIXED one is TURNED to 0, 1 or 2. False for others.");
        Edge.refused(0, x -> Edge.bit(x.turn(2, 0)), x -> Edge.bit(x.turn(2, 1)), x -> Edge.bit(x.turn(2, 2)),
            x -> Edge.bit(x.turn(0, -1)), x -> Edge.bit(x.turn(0, 3)), x -> Edge.bit(x.turn(1, -1)),
            x -> Edge.bit(x.turn(1, 3)), x -> Edge.bit(x.turn(0, LOWEST)), x -> Edge.bit(x.turn(0, HIGHEST)),
            x -> Edge.bit(x.turn(-1, 0)), x -> Edge.bit(x.turn(4, 0)), x -> Edge.bit(x.turn(9, 0)),
            x -> Edge.bit(x.turn(10, 0)), x -> Edge.bit(x.turn(LOWEST, 0)), x -> Edge.bit(x.turn(HIGHEST, 0)));
        MovingStairs x = Edge.halls(9, 9);
        x.link(0, 0, 1, 5, 0);
        x.link(1, 0, 1, 5, 0);
        for (int link = 0; link < 2; link++) {
            for (int way = 0; way < 3; way++) {
                Edge.is("turn to " + way, x.turn(link, way), true);
                Edge.is("it goes", x.on(link, 2), way == 0 ? 0 : 1);
                Edge.is("its WAY", x.on(link, 1), Math.max(1, way));
                Edge.is("WANTED", x.on(link, 4), Math.max(1, way));
            }
        }
    }

    private static void modes() {
        Edge.sentence("6: MODE of a STAIR (0 WALK, 1 STAND). False for others.");
        Edge.refused(0, x -> Edge.bit(x.mode(0, -1)), x -> Edge.bit(x.mode(0, 2)), x -> Edge.bit(x.mode(1, 0)),
            x -> Edge.bit(x.mode(1, 1)), x -> Edge.bit(x.mode(2, 0)), x -> Edge.bit(x.mode(2, 1)),
            x -> Edge.bit(x.mode(-1, 1)), x -> Edge.bit(x.mode(4, 1)), x -> Edge.bit(x.mode(9, 1)),
            x -> Edge.bit(x.mode(10, 1)), x -> Edge.bit(x.mode(LOWEST, 1)), x -> Edge.bit(x.mode(HIGHEST, 1)),
            x -> Edge.bit(x.mode(0, LOWEST)), x -> Edge.bit(x.mode(0, HIGHEST)));
        MovingStairs x = World.busy();
        Edge.is("of one with somebody on it", x.on(0, 0) > 0, true);
        Edge.is("mode 1", x.mode(0, 1), true);
        Edge.is("is told", x.on(0, 7), 1);
        Edge.is("mode 1 again", x.mode(0, 1), true);
        Edge.is("mode 0", x.mode(0, 0), true);
        Edge.is("is told", x.on(0, 7), 0);
        x.turn(0, 0);
        Edge.is("of a stopped one", x.mode(0, 1), true);
        Edge.is("which stays stopped", x.on(0, 2), 0);
    }

    private static void resets() {
        Edge.sentence("7: A TRIPPED one is RESET. False for others.");
        Edge.refused(0, x -> Edge.bit(x.reset(0)), x -> Edge.bit(x.reset(1)), x -> Edge.bit(x.reset(2)),
            x -> Edge.bit(x.reset(3)), x -> Edge.bit(x.reset(4)), x -> Edge.bit(x.reset(-1)),
            x -> Edge.bit(x.reset(10)), x -> Edge.bit(x.reset(LOWEST)), x -> Edge.bit(x.reset(HIGHEST)));
        MovingStairs x = Edge.halls(9, 1, 9);
        x.link(0, 0, 1, 2, 0);
        x.link(0, 0, 1, 2, 0);
        x.link(0, 1, 2, 2, 0);
        x.burst(0, 0, 1, 0, 1, true, false);
        x.burst(0, 0, 0, 2, 1, false, false);
        x.run(3);
        Edge.is("0 is tripped", x.on(0, 3), 1);
        Edge.is("1 isn't", x.on(1, 3), 0);
        Edge.is("reset of 1", x.reset(1), false);
        Edge.is("0 is tripped still", x.on(0, 3), 1);
        Edge.is("reset of 0", x.reset(0), true);
        Edge.is("reset of 0 again", x.reset(0), false);
        Edge.is("trips stay counted", x.all(3), 1);
        x.run(1);
        x.turn(0, 0);
        Edge.is("reset of one that is TRIPPED and STOPPED", x.reset(0), true);
        Edge.is("it stays STOPPED", x.on(0, 2), 0);
    }

    private static void burstTimes() {
        Edge.sentence("8: SECOND 0 .. 99999, every e SECONDS (1 .. 999) again, or once (e 0). NONE for others.");
        Edge.refused(-1, x -> x.burst(-1, 0, 0, 1, 1, false, false),
            x -> x.burst(100000, 0, 0, 1, 1, false, false), x -> x.burst(LOWEST, 0, 0, 1, 1, false, false),
            x -> x.burst(HIGHEST, 0, 0, 1, 1, false, false), x -> x.burst(9, -1, 0, 1, 1, false, false),
            x -> x.burst(9, 1000, 0, 1, 1, false, false), x -> x.burst(9, LOWEST, 0, 1, 1, true, true),
            x -> x.burst(9, HIGHEST, 0, 1, 1, true, true));
        MovingStairs x = Edge.halls(999, 9);
        Edge.is("SECOND 99999", x.burst(99999, 0, 0, 1, 1, false, false), 1);
        Edge.is("SECOND 0 once", x.burst(0, 0, 0, 1, 1, false, false), 2);
        Edge.is("each SECOND", x.burst(0, 1, 0, 1, 10, false, false), 3);
        Edge.is("every 999", x.burst(0, 999, 0, 1, 100, false, false), 4);
        x.run(1);
        Edge.is("behind SECOND 0", x.of(0, 0), 111);
        x.run(1);
        Edge.is("behind SECOND 1", x.of(0, 0), 121);
        Edge.run(x, 997);
        Edge.is("behind SECOND 998", x.of(0, 0), 121 + 997 * 10);
        x.run(1);
        Edge.is("behind SECOND 999", x.of(0, 0), 221 + 998 * 10);
    }

    private static void burstPlaces() {
        Edge.sentence("8: NONE for others, a GOAL that is its HALL.");
        Edge.refused(-1, x -> x.burst(9, 0, 0, 0, 1, false, false), x -> x.burst(9, 0, 2, 2, 1, true, true),
            x -> x.burst(9, 0, 3, 0, 1, false, false), x -> x.burst(9, 0, 0, 3, 1, false, false),
            x -> x.burst(9, 0, 3, 4, 1, false, false), x -> x.burst(9, 0, -1, 0, 1, false, false),
            x -> x.burst(9, 0, 0, -1, 1, false, false), x -> x.burst(9, 0, 5, 0, 1, false, true),
            x -> x.burst(9, 0, 6, 0, 1, false, true), x -> x.burst(9, 0, 0, 6, 1, true, false),
            x -> x.burst(9, 0, LOWEST, 0, 1, true, false), x -> x.burst(9, 0, 0, HIGHEST, 1, true, false));
        MovingStairs x = Edge.halls(9, 9, 9, 9, 9, 9);
        Edge.is("from the first to the last", x.burst(0, 0, 0, 5, 3, false, false), 1);
        Edge.is("from the last to the first", x.burst(0, 0, 5, 0, 2, true, true), 2);
        x.run(1);
        Edge.is("in the first", x.of(0, 15), 3);
        Edge.is("in the last", x.of(5, 20), 2);
    }

    private static void burstSizes() {
        Edge.sentence("8: N TRAVELLERS (1 .. 200). NONE for others.");
        Edge.refused(-1, x -> x.burst(9, 0, 0, 1, 0, false, false), x -> x.burst(9, 0, 0, 1, -1, false, false),
            x -> x.burst(9, 0, 0, 1, 201, false, false), x -> x.burst(9, 0, 0, 1, LOWEST, false, true),
            x -> x.burst(9, 0, 0, 1, HIGHEST, true, true));
        MovingStairs x = Edge.halls(999, 9);
        Edge.is("1", x.burst(0, 0, 0, 1, 1, false, false), 1);
        Edge.is("200", x.burst(0, 0, 0, 1, 200, true, false), 2);
        x.run(1);
        Edge.is("one is able", x.of(0, 11), 1);
        Edge.is("200 are on wheels", x.of(0, 21), 200);
    }

    private static void thirtyBursts() {
        Edge.sentence("8: how many there are. NONE if there are 30.");
        MovingStairs x = Edge.halls(999, 9);
        for (int i = 1; i < 30; i++) {
            Edge.is("burst", x.burst(5, 0, 0, 1, 1, false, false), i);
        }
        Edge.is("the 30th", x.burst(0, 0, 0, 1, 7, false, false), 30);
        Edge.is("the 31st", x.burst(0, 0, 0, 1, 100, false, false), -1);
        Edge.is("30", x.about(3), 30);
        x.run(1);
        Edge.is("the 30th comes, the 31st doesn't", x.of(0, 0), 7);
    }
}
