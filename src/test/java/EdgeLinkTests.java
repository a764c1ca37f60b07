/** The edges that part I names: WAY, WANTED, STOPPED, TRIPPED, and the ROUTE. */
final class EdgeLinkTests {
    private EdgeLinkTests() {
    }

    static void runAll() {
        for (int kind = 0; kind < 2; kind++) {
            atFirst(kind);
            stoppedAtOnce(kind);
            emptyTurned(kind);
            itsWayAlready(kind);
            otherWayWhileOnIt(kind);
            turnedBackInTime(kind);
            stoppedWhileOnIt(kind);
            stoppedAndEmpty(kind);
        }
        turnsAsASecondBegins();
        tripped();
        trippedAndTurned();
        trippedAndStopped();
        secondsTogether();
        likeOnes();
        longestChain();
        wayAlone();
        liftsBothWays();
    }

    /** A stair or fixed one from 0 up to 1 of three STEPS, and one TRAVELLER on its first STEP. */
    private static MovingStairs oneOnIt(int kind) {
        MovingStairs x = Edge.halls(99, 99);
        x.link(kind, 0, 1, 3, 0);
        x.burst(0, 0, 0, 1, 1, false, false);
        x.run(1);
        return x;
    }

    private static void state(String when, MovingStairs x, int way, int wanted, int goes) {
        Edge.is("WAY " + when, x.on(0, 1), way);
        Edge.is("WANTED " + when, x.on(0, 4), wanted);
        Edge.is("goes " + when, x.on(0, 2), goes);
    }

    private static void atFirst(int kind) {
        Edge.sentence("Terms: a WAY (1 up, 2 down; at first 1, WANTED too) and go (at first)");
        MovingStairs x = Edge.halls(9, 9);
        x.link(kind, 0, 1, 3, 0);
        state("at first", x, 1, 1, 1);
        Edge.is("MODE at first", x.on(0, 7), 0);
        Edge.is("not TRIPPED", x.on(0, 3), 0);
        x.turn(0, 2);
        x.turn(0, 0);
        x.mode(0, 1);
        x.back();
        x.hall(9);
        x.hall(9);
        x.link(kind, 0, 1, 3, 0);
        state("of one told in its place", x, 1, 1, 1);
        Edge.is("MODE of it", x.on(0, 7), 0);
    }

    private static void stoppedAtOnce(int kind) {
        Edge.sentence("Terms: TURNED to 0: STOPPED at once.");
        MovingStairs x = oneOnIt(kind);
        x.burst(1, 0, 0, 1, 5, false, false);
        Edge.is("turned", x.turn(0, 0), true);
        state("at once", x, 1, 1, 0);
        x.run(4);
        Edge.is("he is where he was", x.step(0, 0, 0), 1);
        Edge.is("nobody is taken", x.on(0, 5), 1);
        Edge.is("turned to 0 again", x.turn(0, 0), true);
        state("again", x, 1, 1, 0);
    }

    private static void emptyTurned(int kind) {
        Edge.sentence("Terms: Turned to 1 or 2: WANTED is that; if it is empty, its WAY is that and it goes");
        for (int stopped = 0; stopped < 2; stopped++) {
            for (int way = 1; way < 3; way++) {
                MovingStairs x = Edge.halls(9, 9);
                x.link(kind, 0, 1, 3, 0);
                if (stopped == 1) {
                    x.turn(0, 0);
                }
                Edge.is("turned", x.turn(0, way), true);
                state("of an empty one", x, way, way, 1);
                x.burst(0, 0, way == 1 ? 0 : 1, way == 1 ? 1 : 0, 1, false, false);
                x.run(1);
                Edge.is("it takes at once", x.on(0, 5), 1);
            }
        }
    }

    private static void itsWayAlready(int kind) {
        Edge.sentence("Terms: if its WAY is that already, it goes");
        MovingStairs x = oneOnIt(kind);
        x.turn(0, 1);
        state("of one that goes", x, 1, 1, 1);
        x.turn(0, 0);
        x.turn(0, 1);
        state("of one that was STOPPED", x, 1, 1, 1);
        x.run(5 - 3 * (1 - kind));
        Edge.is("he has moved", x.step(0, 0, 2), 1);
        x.run(2);
        Edge.is("and steps off", x.all(0), 1);
    }

    private static void otherWayWhileOnIt(int kind) {
        Edge.sentence("Terms: else it takes nobody till, as a SECOND begins, it is empty: then its WAY is WANTED");
        MovingStairs x = oneOnIt(kind);
        x.burst(1, 0, 0, 1, 4, false, false);
        x.burst(1, 0, 1, 0, 4, false, false);
        x.turn(0, 2);
        state("while somebody is on it", x, 1, 2, 1);
        int secondsOnIt = kind == 0 ? 3 : 6;
        for (int i = 1; i <= secondsOnIt; i++) {
            Edge.is("one is on it still", x.on(0, 0), 1);
            x.run(1);
            Edge.is("nobody is taken", x.on(0, 5), 1);
            state("in that time", x, 1, 2, 1);
        }
        Edge.is("he is off", x.on(0, 6), 1);
        Edge.is("it is empty", x.on(0, 0), 0);
        x.run(1);
        state("as the next SECOND begins", x, 2, 2, 1);
        Edge.is("it takes in that SECOND", x.on(0, 5), 3);
        Edge.is("from above", x.step(0, 0, 0), 0);
        Edge.is("those below wait", x.of(0, 11), 4);
    }

    private static void turnedBackInTime(int kind) {
        Edge.sentence("Terms: WANTED is that (turned back while somebody is on it)");
        MovingStairs x = oneOnIt(kind);
        x.burst(1, 0, 0, 1, 1, false, false);
        x.turn(0, 2);
        x.turn(0, 1);
        state("turned back", x, 1, 1, 1);
        Edge.is("a ROUTE again", x.route(0, 1, false), 0);
        x.run(1);
        Edge.is("it takes again", x.on(0, 5), 2);
    }

    private static void stoppedWhileOnIt(int kind) {
        Edge.sentence("Terms: else it takes nobody till .. it is empty (a STOPPED one so stays STOPPED)");
        MovingStairs x = oneOnIt(kind);
        x.burst(1, 0, 1, 0, 1, false, false);
        x.turn(0, 0);
        x.turn(0, 2);
        state("of a STOPPED one with one on it", x, 1, 2, 0);
        x.run(9);
        Edge.is("he is where he was", x.step(0, 0, 0), 1);
        state("later", x, 1, 2, 0);
        x.turn(0, 0);
        state("turned to 0", x, 1, 2, 0);
        x.turn(0, 1);
        state("turned to its WAY", x, 1, 1, 1);
        x.turn(0, 2);
        x.run(8);
        state("it has gone on and turned", x, 2, 2, 1);
        Edge.is("both have arrived or are on it", x.all(0) + x.on(0, 0), 2);
    }

    private static void stoppedAndEmpty(int kind) {
        Edge.sentence("Terms: then its WAY is WANTED (a STOPPED one so stays STOPPED)");
        MovingStairs x = oneOnIt(kind);
        x.turn(0, 2);
        x.run(kind == 0 ? 3 : 6);
        Edge.is("empty", x.on(0, 0), 0);
        state("empty, and not yet turned", x, 1, 2, 1);
        x.turn(0, 0);
        state("STOPPED ahead of it", x, 1, 2, 0);
        x.burst(0, 1, 1, 0, 1, false, false);
        x.run(1);
        state("as a SECOND has begun", x, 2, 2, 0);
        Edge.is("it takes nobody", x.on(0, 5), 1);
        x.turn(0, 2);
        state("turned to its WAY", x, 2, 2, 1);
        x.run(1);
        Edge.is("it takes two of them", x.on(0, 5), 3);
    }

    private static void turnsAsASecondBegins() {
        Edge.sentence("III (3): ahead of that empty LINKS turn (in SECOND t, not as the last one steps off)");
        MovingStairs x = Edge.halls(9, 9);
        x.link(0, 0, 1, 2, 0);
        x.burst(0, 0, 0, 1, 1, false, false);
        x.burst(2, 0, 1, 0, 1, false, false);
        x.run(1);
        x.turn(0, 2);
        x.run(2);
        Edge.is("he steps off in SECOND 2", x.all(0), 1);
        Edge.is("but it isn't turned in it", x.on(0, 1), 1);
        Edge.is("nor takes the one above", x.of(1, 0), 1);
        Edge.is("trying turns it as well", x.standing(0, 5), 0);
        x.run(1);
        Edge.is("it takes him in SECOND 3", x.step(0, 0, 0), 0);
    }

    /** SECOND 3: stair 0 is TRIPPED before hall 1, which one on WHEELS fills; link 1 leads on to 2. */
    private static MovingStairs tripping() {
        MovingStairs x = Edge.halls(99, 1, 99);
        x.link(0, 0, 1, 2, 0);
        x.link(0, 1, 2, 2, 0);
        x.burst(0, 0, 1, 0, 1, true, false);
        x.burst(0, 0, 0, 2, 3, false, false);
        Check.law(x, "walk 0;");
        x.run(3);
        return x;
    }

    private static void asTripped(MovingStairs x) {
        Edge.is("TRIPPED", x.on(0, 3), 1);
        Edge.is("trips", x.all(3), 1);
        Edge.is("last STEP", x.step(0, 0, 1), 2);
        Edge.is("first STEP", x.step(0, 0, 0), 2);
        Edge.is("taken", x.on(0, 5), 2);
        Edge.is("off", x.on(0, 6), 0);
        Edge.is("they wait", x.of(0, 0), 1);
    }

    private static void tripped() {
        Edge.sentence("Terms: TRIPPED: nothing moves on it, and it takes nobody, till it is RESET.");
        MovingStairs x = tripping();
        asTripped(x);
        x.link(2, 0, 1, 1, 2);
        x.run(2);
        Edge.is("hall 1 has room now", x.of(1, 0), 0);
        asTripped(x);
        x.run(50);
        asTripped(x);
        Edge.is("reset", x.reset(0), true);
        Edge.is("ROUTE", x.route(0, 2, false), 0);
        x.run(1);
        Edge.is("it moves", x.on(0, 6), 1);
        Edge.is("and takes", x.on(0, 5), 3);
        Edge.is("no more TRIPS", x.all(3), 1);
    }

    private static void trippedAndTurned() {
        Edge.sentence("Terms: TRIPPED .. till it is RESET (being TURNED doesn't do)");
        MovingStairs x = tripping();
        Edge.is("turned to 1", x.turn(0, 1), true);
        x.run(2);
        asTripped(x);
        Edge.is("turned to 2", x.turn(0, 2), true);
        state("while TRIPPED", x, 1, 2, 1);
        x.run(2);
        asTripped(x);
        x.link(2, 0, 1, 1, 2);
        x.run(2);
        x.reset(0);
        x.run(1);
        Edge.is("RESET, it moves in its WAY", x.on(0, 6), 1);
        Edge.is("and takes nobody, as WANTED is another", x.on(0, 5), 2);
        x.run(2);
        state("empty, and turned then", x, 2, 2, 1);
    }

    private static void trippedAndStopped() {
        Edge.sentence("Terms: or are STOPPED .. TRIPPED: it has stopped by itself");
        MovingStairs x = tripping();
        x.turn(0, 0);
        Edge.is("RESET", x.reset(0), true);
        Edge.is("STOPPED still", x.on(0, 2), 0);
        x.run(2);
        Edge.is("so it doesn't trip anew", x.all(3), 1);
        x.turn(0, 1);
        x.run(1);
        Edge.is("it does as it goes", x.all(3), 2);
        Edge.is("TRIPPED", x.on(0, 3), 1);
    }

    private static void secondsTogether() {
        Edge.sentence("Terms: by fewest SECONDS together (a STAIR LENGTH, a FIXED one 2 LENGTH, a LIFT CYCLE)");
        MovingStairs x = Edge.halls(9, 9, 9);
        x.link(0, 0, 1, 40, 0);
        Edge.is("a stair of 40", x.route(0, 1, false), 0);
        x.link(1, 0, 1, 20, 0);
        Edge.is("a fixed one of 20 is like it", x.route(0, 1, false), 0);
        x.link(1, 0, 1, 19, 0);
        Edge.is("a fixed one of 19 isn't", x.route(0, 1, false), 2);
        x.link(0, 0, 1, 37, 0);
        Edge.is("a stair of 37 is shorter", x.route(0, 1, false), 3);
        x.link(0, 0, 2, 18, 0);
        x.link(0, 2, 1, 19, 0);
        Edge.is("18 and 19 are like 37", x.route(0, 1, false), 3);
        x.link(0, 2, 1, 18, 0);
        Edge.is("18 and 18 aren't", x.route(0, 1, false), 4);
        MovingStairs y = Edge.halls(9, 9, 9);
        y.link(2, 0, 1, 20, 99);
        y.link(2, 0, 2, 1, 50);
        y.link(2, 2, 1, 1, 50);
        Edge.is("50 and 50 are more than 99", y.route(0, 1, true), 0);
        y.link(2, 1, 2, 1, 49);
        Edge.is("50 and 49 are like it", y.route(0, 1, true), 0);
        y.link(2, 1, 2, 1, 48);
        Edge.is("50 and 48 are fewer", y.route(0, 1, true), 1);
    }

    private static void likeOnes() {
        Edge.sentence("Terms: of like ones the lowest LINK");
        MovingStairs x = Edge.halls(9, 9, 9);
        x.link(0, 1, 0, 2, 0);
        x.link(0, 1, 2, 5, 0);
        x.link(0, 0, 2, 10, 0);
        x.link(0, 0, 1, 5, 0);
        Edge.is("straight or by 1", x.route(0, 2, false), 2);
        x.turn(2, 0);
        Edge.is("by 1", x.route(0, 2, false), 3);
        x.link(0, 0, 1, 5, 0);
        Edge.is("two alike", x.route(0, 2, false), 3);
        MovingStairs y = Edge.halls(9, 9, 9, 9);
        y.link(0, 1, 3, 3, 0);
        y.link(0, 2, 3, 2, 0);
        y.link(0, 0, 2, 5, 0);
        y.link(0, 0, 1, 4, 0);
        Edge.is("the lowest that is gone by first", y.route(0, 3, false), 2);
    }

    private static void longestChain() {
        Edge.sentence("Terms: ROUTE from a HALL to another one (by as many LINKS as it takes)");
        MovingStairs x = Edge.halls(9, 9, 9, 9, 9, 9);
        for (int i = 4; i >= 0; i--) {
            x.link(0, i + 1, i, 2, 0);
        }
        x.link(2, 0, 3, 1, 9);
        x.link(2, 3, 5, 1, 9);
        for (int from = 1; from < 6; from++) {
            for (int to = 0; to < from; to++) {
                Edge.is("from " + from + " to " + to, x.route(from, to, false), 5 - from);
                Edge.is("from " + to + " to " + from, x.route(to, from, false), -1);
            }
        }
        Edge.is("on wheels", x.route(0, 5, true), 5);
        Edge.is("and back", x.route(5, 0, true), 6);
        x.burst(0, 0, 5, 0, 1, false, false);
        x.run(11);
        Edge.is("two SECONDS for each of five", x.all(0), 1);
        Edge.is("and no time between", x.all(1), 0);
    }

    private static void wayAlone() {
        Edge.sentence("Terms: LINKS that take somebody there in their WAY alone (going, not TRIPPED, WANTED is their WAY)");
        MovingStairs x = tripping();
        Edge.is("TRIPPED", x.route(0, 1, false), -1);
        x.reset(0);
        Edge.is("RESET", x.route(0, 1, false), 0);
        x.turn(0, 2);
        Edge.is("WANTED is another: up", x.route(0, 1, false), -1);
        Edge.is("WANTED is another: down", x.route(1, 0, false), -1);
        x.turn(0, 1);
        Edge.is("WANTED is its WAY", x.route(0, 1, false), 0);
        x.turn(0, 0);
        Edge.is("STOPPED", x.route(0, 1, false), -1);
        x.turn(0, 1);
        Edge.is("going", x.route(0, 1, false), 0);
        Edge.is("beyond it", x.route(0, 2, false), 0);
        x.turn(1, 2);
        Edge.is("beyond it no more", x.route(0, 2, false), -1);
        Edge.is("down there", x.route(2, 1, false), 1);
    }

    private static void liftsBothWays() {
        Edge.sentence("Terms: LIFTS both ways; ABLE ones go by STAIRS and FIXED ones, WHEELS by LIFTS");
        MovingStairs x = Edge.halls(9, 9);
        x.link(2, 0, 1, 1, 2);
        x.burst(0, 0, 0, 1, 1, true, false);
        x.burst(0, 0, 1, 0, 1, true, false);
        x.burst(0, 0, 0, 1, 1, false, false);
        x.run(1);
        Edge.is("one up, one down", x.all(0), 2);
        Edge.is("the able one waits", x.of(0, 0), 1);
        MovingStairs y = Edge.halls(9, 9);
        y.link(0, 0, 1, 2, 0);
        y.link(1, 0, 1, 2, 0);
        y.burst(0, 0, 0, 1, 2, true, false);
        y.run(9);
        Edge.is("those on wheels wait", y.of(0, 21), 2);
    }
}
