/** The edges that promises 20 to 25 and part IV name. */
final class EdgeTrialTests {
    private static final int LOWEST = Edge.LOWEST;
    private static final int HIGHEST = Edge.HIGHEST;
    private static final int NO = -1000000;

    private EdgeTrialTests() {
    }

    static void runAll() {
        secondsTried();
        withoutAnythingChanging();
        waysForOthers();
        fiveAtMost();
        lowestOfLikeOnes();
        turnedNow();
        waysByTheText();
        triedWithWheels();
        triedByOtherLinks();
        leastForOthers();
        greatestOfAll();
        overInThoseSeconds();
        trippedAnew();
        leastByAnyHall();
        shutThen();
        feltForOthers();
        feltFirst();
        feltByItsWay();
        feltAtTheEndOfASecond();
        standingForOthers();
        standingFound();
        aloneForOthers();
        aloneFromEmpty();
        aloneByW();
        crossingForOthers();
        crossingLeast();
    }

    private static MovingStairs stair(int room) {
        MovingStairs x = Edge.halls(room, room);
        x.link(0, 0, 1, 5, 0);
        return x;
    }

    private static void secondsTried() {
        Edge.sentence("IV: what RUN n SECONDS (1 .. 300, not beyond 99999) from now would bring");
        for (int n : new int[] {0, -1, 301, 302, 1000, LOWEST, HIGHEST, HIGHEST - 3}) {
            Edge.refused(-1, x -> x.ways(1, n, 0), x -> x.ways(1, n, 1), x -> x.least(0, n, 0),
                x -> x.least(0, n, 1), x -> x.felt(0, n));
            Edge.refused(NO, x -> x.standing(0, n));
        }
        MovingStairs x = stair(9);
        for (int n : new int[] {1, 300}) {
            Edge.is("ways " + n, x.ways(1, n, 1), 0);
            Edge.is("least " + n, x.least(0, n, 0), 60);
            Edge.is("felt " + n, x.felt(0, n), -1);
            Edge.is("standing " + n, x.standing(0, n), 0);
        }
        x.burst(299, 0, 0, 1, 12, false, false);
        Edge.is("ahead of SECOND 299: ways", x.ways(1, 299, 1), 0);
        Edge.is("ahead of SECOND 299: least", x.least(0, 299, 0), 60);
        Edge.is("ahead of SECOND 299: felt", x.felt(0, 299), -1);
        Edge.is("with SECOND 299: ways", x.ways(1, 300, 1), 11);
        Edge.is("with SECOND 299: least", x.least(0, 300, 0), -1);
        Edge.is("with SECOND 299: felt", x.felt(0, 300), 299);
    }

    private static void withoutAnythingChanging() {
        Edge.sentence("IV: TRIED, without anything changing");
        MovingStairs x = World.busy();
        x.ways(9, 30, 0);
        x.ways(11, 30, 1);
        x.least(0, 30, 0);
        x.least(1, 30, 1);
        x.felt(0, 30);
        x.standing(3, 30);
        x.alone(40, 5, 0, 99);
        x.crossing(40, 99);
        World.alike(x, World.busy());
        MovingStairs y = stair(1);
        y.link(0, 0, 1, 2, 0);
        y.turn(1, 0);
        y.bar(0, 7);
        y.burst(0, 0, 0, 1, 9, false, false);
        y.ways(1, 5, 0);
        y.least(0, 5, 0);
        y.felt(0, 5);
        y.standing(0, 5);
        Edge.is("WAY", y.on(0, 1), 1);
        Edge.is("goes", y.on(0, 2), 1);
        Edge.is("MODE", y.on(0, 7), 0);
        Edge.is("STOPPED", y.on(1, 2), 0);
        Edge.is("BAR", y.of(0, 4), 7);
        Edge.is("OVER", y.of(0, 3), -1);
        Edge.is("SHUT", y.of(0, 2), 0);
        Edge.is("WAITED", y.all(1), 0);
        Edge.is("SECOND", y.about(0), 0);
        Edge.is("ROUTE", y.route(0, 1, false), 0);
        Edge.is("THE IMAGE", y.back() + y.about(1), 0);
    }

    private static void waysForOthers() {
        Edge.sentence("20: NONE for others (LIFTS, none, or more than 5).");
        Edge.refused(-1, x -> x.ways(0, 5, 0), x -> x.ways(4, 5, 0), x -> x.ways(5, 5, 0), x -> x.ways(15, 5, 1),
            x -> x.ways(16, 5, 0), x -> x.ways(17, 5, 0), x -> x.ways(1 << 9, 5, 0), x -> x.ways(1 << 10, 5, 0),
            x -> x.ways(1 | 1 << 31, 5, 0), x -> x.ways(1 | 1 << 30, 5, 0), x -> x.ways(-1, 5, 0),
            x -> x.ways(LOWEST, 5, 0), x -> x.ways(HIGHEST, 5, 0), x -> x.ways(1, 5, -1), x -> x.ways(1, 5, 2),
            x -> x.ways(1, 5, LOWEST), x -> x.ways(1, 5, HIGHEST));
        MovingStairs x = World.busy();
        Edge.is("a STAIR", x.ways(1, 5, 1) >= 0, true);
        Edge.is("a FIXED one alone", x.ways(2, 5, 1) >= 0, true);
        Edge.is("both", x.ways(11, 5, 1) >= 0, true);
    }

    private static void fiveAtMost() {
        Edge.sentence("IV: WAYS of a set of STAIRS (bits; FIXED ones may be among them; 5 at most)");
        MovingStairs x = Edge.halls(99, 99);
        for (int i = 0; i < 10; i++) {
            x.link(i % 2, 0, 1, 5, 0);
        }
        Edge.is("five of the last", x.ways(0x3e0, 5, 0), 0);
        Edge.is("five of all", x.ways(0x251 | 0x100, 5, 0), 0);
        Edge.is("six", x.ways(0x3f0, 5, 0), -1);
        Edge.is("all ten", x.ways(0x3ff, 5, 0), -1);
        Edge.is("beyond the tenth", x.ways(0x400, 5, 0), -1);
        Edge.is("one, and one beyond", x.ways(0x601, 5, 0), -1);
        for (int i = 0; i < 10; i++) {
            x.turn(i, 0);
        }
        x.burst(0, 0, 0, 1, 9, false, false);
        x.burst(0, 0, 1, 0, 1, false, false);
        Edge.is("a fixed one takes two up, a stair one down", x.ways(0x3e0, 1, 1), 7);
        Edge.is("the lowest fixed one", x.ways(0x3e0, 1, 0), 0x20);
        Edge.is("the tenth alone", x.ways(0x200, 1, 0), 0x200);
        Edge.is("it takes two", x.ways(0x200, 1, 1), 8);
        Edge.is("of the last two the lower stair goes down", x.ways(0x300, 1, 0), 0x200);
    }

    private static void lowestOfLikeOnes() {
        Edge.sentence("IV: that by which WAITED grows least; of like ones the lowest (bits of those turned to 1)");
        MovingStairs x = Edge.halls(99, 99);
        x.link(0, 0, 1, 5, 0);
        x.link(0, 0, 1, 5, 0);
        x.link(0, 0, 1, 5, 0);
        Edge.is("nobody comes", x.ways(7, 9, 0), 0);
        x.burst(0, 0, 0, 1, 1, false, false);
        Edge.is("one is enough", x.ways(7, 9, 0), 1);
        Edge.is("one of the later two", x.ways(6, 9, 0), 0);
        x.turn(0, 2);
        Edge.is("when 0 is turned down", x.ways(6, 9, 0), 2);
        x.burst(0, 0, 1, 0, 1, false, false);
        Edge.is("one each way", x.ways(6, 9, 0), 2);
        Edge.is("one of three", x.ways(7, 9, 0), 1);
        Edge.is("nobody waits", x.ways(7, 9, 1), 0);
        x.burst(9, 0, 1, 0, 5, false, false);
        Edge.is("beyond those SECONDS", x.ways(7, 9, 0), 1);
    }

    private static void turnedNow() {
        Edge.sentence("IV: each is turned to 1 or 2 now");
        MovingStairs x = stair(99);
        x.turn(0, 0);
        x.burst(0, 0, 1, 0, 1, false, false);
        Edge.is("a STOPPED one goes then", x.ways(1, 1, 1), 0);
        Edge.is("down", x.ways(1, 1, 0), 0);
        MovingStairs y = stair(99);
        y.burst(0, 0, 0, 1, 1, false, false);
        y.burst(1, 0, 1, 0, 3, false, false);
        y.burst(1, 0, 0, 1, 1, false, false);
        y.run(1);
        Edge.is("one with somebody on it isn't turned at once", y.ways(1, 5, 0), 1);
        Edge.is("three wait five SECONDS", y.ways(1, 5, 1), 15);
        Edge.is("in the sixth it would be empty and turn", y.ways(1, 300, 0), 0);
        Edge.is("four wait five SECONDS, then 2 and 1 are taken", y.ways(1, 7, 1), 21);
        MovingStairs z = stair(99);
        z.turn(0, 2);
        z.burst(0, 0, 0, 1, 1, false, false);
        Edge.is("others stay as they are", z.ways(1, 1, 0), 1);
        z.link(0, 0, 1, 5, 0);
        Edge.is("one that isn't among them takes him", z.ways(1, 1, 0), 0);
    }

    private static void waysByTheText() {
        Edge.sentence("IV: what RUN n SECONDS would bring (by THE TEXT)");
        MovingStairs x = stair(99);
        x.burst(0, 0, 0, 1, 9, false, false);
        Check.law(x, "walk 0;");
        Edge.is("one stands", x.ways(1, 1, 1), 8);
        Check.law(x, "walk 5;");
        Edge.is("one stands, one walks", x.ways(1, 1, 1), 7);
        x.burst(0, 0, 1, 0, 50, false, true);
        Check.law(x, "walk 5; back 1<2;");
        Edge.is("who goes back doesn't wait", x.ways(1, 1, 1), 7);
        x.by(-1);
        Edge.is("without THE TEXT two stand, one after the other", x.ways(1, 1, 0), 0);
        Edge.is("and fifty come", x.ways(1, 1, 1), 58);
    }

    private static void triedWithWheels() {
        Edge.sentence("IV: what RUN n SECONDS from now would bring (by LIFTS, to those on WHEELS)");
        MovingStairs x = stair(99);
        x.burst(0, 0, 0, 1, 4, true, false);
        Edge.is("those on WHEELS wait", x.ways(1, 3, 1), 12);
        Edge.is("none steps off", x.standing(0, 300), 0);
        x.link(2, 0, 1, 1, 3);
        Edge.is("one goes at once", x.ways(1, 3, 1), 9);
        Edge.is("and one in SECOND 3", x.ways(1, 4, 1), 11);
        MovingStairs y = Edge.halls(3, 9);
        y.link(0, 0, 1, 5, 0);
        y.link(2, 0, 1, 2, 7);
        y.burst(7, 0, 0, 1, 5, true, false);
        Edge.is("two of five are gone in SECOND 7", y.least(0, 8, 0), 60);
        Edge.is("never more than ROOM", y.felt(0, 8), -1);
        y.burst(8, 0, 0, 1, 1, true, false);
        Edge.is("four in SECOND 8", y.least(0, 9, 0), -1);
        Edge.is("that is felt", y.felt(0, 9), 8);
        y.run(5);
        Edge.is("from SECOND 5 on", y.felt(0, 9), 3);
    }

    private static void triedByOtherLinks() {
        Edge.sentence("IV: what RUN n SECONDS from now would bring (by LINKS as they are now)");
        MovingStairs x = Edge.halls(99, 99);
        x.burst(0, 0, 0, 1, 4, false, false);
        x.burst(0, 0, 1, 0, 7, false, false);
        x.image();
        x.link(0, 0, 1, 5, 0);
        Edge.is("from 0 up or down", x.ways(1, 1, 1), 10);
        Edge.is("none is off in one", x.standing(0, 1), 0);
        x.back();
        x.link(0, 1, 0, 5, 0);
        Edge.is("two stand, or one stands and two walk", x.standing(0, 6), -1);
        x.back();
        x.link(1, 1, 0, 5, 0);
        Edge.is("from 1 up or down", x.ways(1, 1, 1), 9);
        Edge.is("which is alike", x.ways(1, 1, 0), 0);
        x.back();
        x.link(0, 1, 0, 5, 0);
        x.mode(0, 1);
        Edge.is("two stood, or one stood and two walked", x.standing(0, 6), -1);
        Edge.is("it takes from 1", x.run(1) + x.of(1, 0), 1 + 5);
    }

    private static void leastForOthers() {
        Edge.sentence("21: NONE: none, and for others.");
        Edge.refused(-1, x -> x.least(-1, 5, 0), x -> x.least(3, 5, 0), x -> x.least(5, 5, 0), x -> x.least(6, 5, 0),
            x -> x.least(LOWEST, 5, 0), x -> x.least(HIGHEST, 5, 0), x -> x.least(0, 5, -1), x -> x.least(0, 5, 2),
            x -> x.least(0, 5, LOWEST), x -> x.least(0, 5, HIGHEST), x -> x.least(-1, 5, 1), x -> x.least(3, 5, 1));
    }

    private static void greatestOfAll() {
        Edge.sentence("IV: BAR of a HALL: the greatest of 0 .. 60");
        MovingStairs x = Edge.halls(100, 9);
        x.burst(0, 1, 0, 1, 1, false, true);
        x.burst(70, 0, 0, 1, 38, false, false);
        Edge.is("60, though more would do", x.least(0, 70, 0), 60);
        Edge.is("60 and 38 have room", x.least(0, 71, 0), 60);
        Edge.is("SHUT from 60 in it on", x.least(0, 71, 1), 11);
        x.burst(70, 0, 0, 1, 2, false, false);
        Edge.is("60 and 40 have room", x.least(0, 71, 0), 60);
        x.burst(70, 0, 0, 1, 1, false, false);
        Edge.is("60 and 41 haven't", x.least(0, 71, 0), 59);
        x.burst(70, 0, 0, 1, 58, false, false);
        Edge.is("1 and 99 have", x.least(0, 71, 0), 1);
        Edge.is("SHUT from 1 on", x.least(0, 71, 1), 70);
        x.burst(70, 0, 0, 1, 1, false, false);
        Edge.is("0 and 100 have", x.least(0, 71, 0), 0);
        Edge.is("SHUT always", x.least(0, 71, 1), 71);
        x.burst(70, 0, 0, 1, 1, false, false);
        Edge.is("101 haven't: none", x.least(0, 71, 0), -1);
        Edge.is("nor its SECONDS", x.least(0, 71, 1), -1);
        Edge.is("ahead of them", x.least(0, 70, 0), 60);
        Edge.is("SHUT then", x.least(0, 70, 1), 10);
        Edge.is("BAR is as it was", x.of(0, 4), 999);
    }

    private static void overInThoseSeconds() {
        Edge.sentence("IV: by which no HALL is OVER in those SECONDS");
        MovingStairs x = Edge.halls(5, 9);
        x.link(0, 0, 1, 2, 0);
        x.mode(0, 1);
        x.burst(0, 0, 0, 1, 9, false, false);
        x.run(1);
        Edge.is("over now", x.of(0, 3), 0);
        Edge.is("seven are in it", x.of(0, 0), 7);
        Edge.is("five are by the end of SECOND 1", x.least(0, 300, 0), 60);
        MovingStairs y = Edge.halls(5, 9);
        y.link(0, 0, 1, 2, 0);
        y.mode(0, 1);
        y.burst(0, 0, 0, 1, 10, false, false);
        y.run(1);
        Edge.is("six are by the end of SECOND 1", y.least(0, 300, 0), -1);
        y.run(1);
        Edge.is("four by that of SECOND 2", y.least(0, 300, 0), 60);
        Edge.is("OVER is what it was", y.of(0, 3), 0);
    }

    private static void trippedAnew() {
        Edge.sentence("IV: and nothing is TRIPPED anew");
        MovingStairs x = Edge.halls(99, 1, 99);
        x.link(0, 0, 1, 2, 0);
        x.link(0, 1, 2, 2, 0);
        x.burst(0, 0, 1, 0, 1, true, false);
        x.burst(0, 0, 0, 2, 1, false, false);
        Edge.is("not in two SECONDS", x.least(0, 2, 0), 60);
        Edge.is("in three, by any BAR", x.least(0, 3, 0), -1);
        x.run(3);
        Edge.is("TRIPPED already", x.on(0, 3), 1);
        Edge.is("isn't anew", x.least(0, 300, 0), 60);
        x.reset(0);
        Edge.is("RESET it is", x.least(2, 1, 0), -1);
        x.turn(0, 0);
        Edge.is("STOPPED it isn't", x.least(2, 300, 0), 60);
    }

    private static void leastByAnyHall() {
        Edge.sentence("IV: by which no HALL is OVER (none of all)");
        MovingStairs x = Edge.halls(9, 9, 9, 9, 9, 5);
        x.burst(2, 0, 5, 0, 6, false, false);
        for (int hall = 0; hall < 6; hall++) {
            Edge.is("ahead of it, by " + hall, x.least(hall, 2, 0), 60);
            Edge.is("the last is, by " + hall, x.least(hall, 3, 0), -1);
        }
    }

    private static void shutThen() {
        Edge.sentence("21: 1 SHUT SECONDS by it (how long it is SHUT then)");
        MovingStairs x = Edge.halls(99, 99);
        x.burst(0, 0, 0, 1, 70, false, false);
        x.bar(0, 3);
        x.run(5);
        Edge.is("SHUT so far", x.of(0, 2), 4 + 1);
        Edge.is("by 60 in those alone", x.least(0, 7, 1), 7);
        Edge.is("which is", x.least(0, 7, 0), 60);
        Check.law(x, "shut hall = 1 and second < 8;");
        Edge.is("by a clause of the other one", x.least(1, 7, 1), 3);
        Edge.is("of 0 it isn't", x.least(0, 7, 1), 7);
    }

    private static void feltForOthers() {
        Edge.sentence("22: NONE: none, and for others.");
        Edge.refused(-1, x -> x.felt(1, 99), x -> x.felt(2, 99), x -> x.felt(4, 99), x -> x.felt(-1, 99),
            x -> x.felt(9, 99), x -> x.felt(10, 99), x -> x.felt(LOWEST, 99), x -> x.felt(HIGHEST, 99));
        MovingStairs x = Edge.halls(3, 9);
        x.link(0, 0, 1, 2, 0);
        Edge.is("none", x.felt(0, 300), -1);
        x.burst(0, 0, 0, 1, 3, false, false);
        Edge.is("as many as ROOM", x.felt(0, 300), -1);
    }

    private static void feltFirst() {
        Edge.sentence("22: FELT: which of those SECONDS (0 the first).");
        MovingStairs x = Edge.halls(3, 9);
        x.link(0, 0, 1, 2, 0);
        x.mode(0, 1);
        x.burst(0, 0, 0, 1, 5, false, false);
        x.burst(20, 0, 0, 1, 4, false, false);
        Edge.is("in the first", x.felt(0, 1), 0);
        x.run(1);
        Edge.is("three are left, so in SECOND 20", x.felt(0, 300), 19);
        Edge.is("within twenty", x.felt(0, 20), 19);
        Edge.is("not within nineteen", x.felt(0, 19), -1);
        x.run(19);
        Edge.is("in the first of those", x.felt(0, 300), 0);
        x.turn(0, 0);
        Edge.is("of a STOPPED one", x.felt(0, 300), 0);
    }

    private static void feltByItsWay() {
        Edge.sentence("IV: its foot's HALL (by its WAY)");
        MovingStairs x = Edge.halls(3, 2, 9);
        x.link(0, 0, 1, 2, 0);
        x.burst(2, 0, 0, 1, 4, false, false);
        x.burst(5, 0, 1, 0, 3, false, false);
        x.burst(1, 0, 2, 0, 10, false, false);
        Edge.is("up: below", x.felt(0, 300), 2);
        x.turn(0, 2);
        Edge.is("down: above", x.felt(0, 300), 5);
        MovingStairs y = Edge.halls(3, 2);
        y.link(0, 0, 1, 2, 0);
        y.burst(0, 0, 0, 1, 1, false, false);
        y.burst(3, 0, 0, 1, 4, false, false);
        y.burst(6, 0, 1, 0, 3, false, false);
        y.run(1);
        y.turn(0, 2);
        Edge.is("with one on it, it goes up still", y.felt(0, 300), 2);
        y.run(3);
        Edge.is("turned", y.on(0, 1), 2);
        Edge.is("down", y.felt(0, 300), 2);
    }

    private static void feltAtTheEndOfASecond() {
        Edge.sentence("IV: the first of those SECONDS at which its foot's HALL has more than ROOM in it");
        MovingStairs x = Edge.halls(3, 9);
        x.link(0, 0, 1, 2, 0);
        x.link(0, 0, 1, 2, 0);
        x.mode(1, 1);
        x.burst(0, 0, 0, 1, 5, false, false);
        Edge.is("five came, and the other took two", x.felt(0, 300), -1);
        x.burst(0, 0, 0, 1, 1, false, false);
        Edge.is("six came", x.felt(0, 300), 0);
    }

    private static void standingForOthers() {
        Edge.sentence("23: -1000000 for others.");
        Edge.refused(NO, x -> x.standing(1, 9), x -> x.standing(2, 9), x -> x.standing(4, 9), x -> x.standing(-1, 9),
            x -> x.standing(9, 9), x -> x.standing(10, 9), x -> x.standing(LOWEST, 9),
            x -> x.standing(HIGHEST, 9));
    }

    private static void standingFound() {
        Edge.sentence("IV: STANDING: how many more step off a STAIR in MODE 1 than in MODE 0");
        MovingStairs x = stair(99);
        Edge.is("nobody", x.standing(0, 300), 0);
        x.burst(0, 0, 0, 1, 10, false, false);
        Check.law(x, "walk 0;");
        Edge.is("not off yet", x.standing(0, 5), 0);
        Edge.is("two and one", x.standing(0, 6), 1);
        Edge.is("ten and five", x.standing(0, 10), 5);
        Edge.is("ten and nine", x.standing(0, 14), 1);
        Edge.is("ten and ten", x.standing(0, 15), 0);
        Check.law(x, "walk 10;");
        Edge.is("walkers are off first", x.standing(0, 4), -1);
        Edge.is("two walkers", x.standing(0, 5), -2);
        x.run(6);
        Edge.is("off so far isn't counted", x.on(0, 6) > 0, true);
        Edge.is("those on it walk in either", x.standing(0, 1), 0);
        x.mode(0, 1);
        x.turn(0, 0);
        Edge.is("of a STOPPED one", x.standing(0, 300), 0);
        Edge.is("MODE stays", x.on(0, 7), 1);
    }

    private static void aloneForOthers() {
        Edge.sentence("24: ALONE (LENGTH 2 .. 40, W 0 .. 10). NONE for others.");
        Edge.refused(-1, x -> x.alone(1, 5, 0, 9), x -> x.alone(0, 5, 0, 9), x -> x.alone(41, 5, 0, 9),
            x -> x.alone(-2, 5, 0, 9), x -> x.alone(LOWEST, 5, 0, 9), x -> x.alone(HIGHEST, 5, 0, 9),
            x -> x.alone(5, -1, 0, 9), x -> x.alone(5, 11, 0, 9), x -> x.alone(5, -1, 1, 9),
            x -> x.alone(5, 11, 1, 9), x -> x.alone(5, LOWEST, 0, 9), x -> x.alone(5, HIGHEST, 0, 9),
            x -> x.alone(5, 5, -1, 9), x -> x.alone(5, 5, 2, 9), x -> x.alone(5, 5, LOWEST, 9),
            x -> x.alone(5, 5, HIGHEST, 9), x -> x.alone(5, 5, 0, 0), x -> x.alone(5, 5, 0, -1),
            x -> x.alone(5, 5, 0, 1000), x -> x.alone(5, 5, 1, 1000), x -> x.alone(5, 5, 0, LOWEST),
            x -> x.alone(5, 5, 0, HIGHEST), x -> x.alone(5, 5, 1, 1 << 30));
        MovingStairs x = new MovingStairs();
        Edge.is("T 1", x.alone(2, 0, 0, 1), 0);
        Edge.is("T 999", x.alone(2, 0, 0, 999), 997);
        Edge.is("LENGTH 40", x.alone(40, 0, 0, 999), 959);
        Edge.is("W 10", x.alone(2, 10, 0, 999), 998);
    }

    private static void aloneFromEmpty() {
        Edge.sentence("IV: with an endless crowd at its foot and room above .. as in (4) from empty on");
        MovingStairs x = new MovingStairs();
        for (int length : new int[] {2, 3, 39, 40}) {
            for (int w = 0; w <= 10; w += 10) {
                Edge.is("none in as many SECONDS", x.alone(length, w, 1, length), 0);
                Edge.is("two in one more", x.alone(length, w, 1, length + 1), 2);
                Edge.is("all standing", x.alone(length, w, 1, 999), 2 * (999 - length));
            }
            Edge.is("none stands off", x.alone(length, 0, 0, length), 0);
            Edge.is("one in one more", x.alone(length, 0, 0, length + 1), 1);
            int walk = (length + 1) / 2;
            Edge.is("none walks off", x.alone(length, 10, 0, walk), 0);
            Edge.is("one in one more", x.alone(length, 10, 0, walk + 1), 1);
            Edge.is("all walking", x.alone(length, 10, 0, 999), 999 - walk);
            Edge.is("half and half", x.alone(length, 5, 0, 999), 2 * 999 - length - walk);
        }
        MovingStairs z = Edge.halls(9, 9, 9);
        z.link(0, 1, 0, 5, 0);
        z.run(1);
        Edge.is("where LINK 0 leads elsewhere", z.alone(10, 5, 0, 99), x.alone(10, 5, 0, 99));
        z.link(0, 2, 1, 5, 0);
        z.turn(0, 0);
        z.run(1);
        Edge.is("or is STOPPED", z.alone(10, 5, 0, 99), x.alone(10, 5, 0, 99));
        z.link(2, 0, 1, 5, 5);
        z.route(0, 1, true);
        Edge.is("behind a ROUTE", z.alone(10, 5, 1, 99), x.alone(10, 5, 1, 99));
        MovingStairs y = World.busy();
        y.by(-1);
        Edge.is("by no text, in any station", y.alone(10, 5, 0, 99), x.alone(10, 5, 0, 99));
        y.by(0);
        Edge.is("nor by THE TEXT", y.alone(10, 3, 0, 99), x.alone(10, 3, 0, 99));
        Edge.is("the same again", y.alone(10, 3, 0, 99), x.alone(10, 3, 0, 99));
    }

    private static void aloneByW() {
        Edge.sentence("IV: by W and a MODE (one walks if W * (c + 1) / 10 is above W * c / 10)");
        MovingStairs x = new MovingStairs();
        // by 1 nine stand, one a second but the tenth's companion, and the tenth walks beside the ninth
        Edge.is("the first ten in nine SECONDS", x.alone(2, 1, 0, 9 + 1), 9);
        Edge.is("of which the tenth came with the ninth", x.alone(2, 1, 0, 9), 7);
        Edge.is("by 9: stander and walker, then walkers alone", x.alone(2, 9, 0, 3), 3);
        Edge.is("and so on", x.alone(2, 9, 0, 4), 4);
    }

    private static void crossingForOthers() {
        Edge.sentence("25: CROSSING. NONE: none, and for others.");
        Edge.refused(-1, x -> x.crossing(1, 9), x -> x.crossing(0, 9), x -> x.crossing(41, 9), x -> x.crossing(-2, 9),
            x -> x.crossing(LOWEST, 9), x -> x.crossing(HIGHEST, 9), x -> x.crossing(5, 0), x -> x.crossing(5, -1),
            x -> x.crossing(5, 1000), x -> x.crossing(5, LOWEST), x -> x.crossing(5, HIGHEST));
    }

    private static void crossingLeast() {
        Edge.sentence("IV: the least W (0 .. 10) by which MODE 0 carries as many as MODE 1, or more, in T");
        MovingStairs x = new MovingStairs();
        for (int length : new int[] {2, 3, 20, 40}) {
            Edge.is("T 1", x.crossing(length, 1), 0);
            Edge.is("none is off in MODE 1", x.crossing(length, length), 0);
            Edge.is("T 999", x.crossing(length, 999), 5);
            for (int t : new int[] {length + 1, length + 2, 2 * length, 3 * length}) {
                int w = x.crossing(length, t);
                int standing = x.alone(length, 0, 1, t);
                Edge.is("by W", x.alone(length, w, 0, t) >= standing, true);
                for (int less = 0; less < w; less++) {
                    Edge.is("by less", x.alone(length, less, 0, t) < standing, true);
                }
            }
        }
        Edge.is("two off of 2 in 3", x.alone(2, 0, 1, 3), 2);
        Edge.is("by 3", x.alone(2, 3, 0, 3) * 10 + x.alone(2, 4, 0, 3), 11 + 1);
        Edge.is("so it is", x.crossing(2, 3), 4);
    }
}
