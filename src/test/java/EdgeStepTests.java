/** The edges of part III (4): lifts, steps, stepping off, and who is taken. */
final class EdgeStepTests {
    private EdgeStepTests() {
    }

    static void runAll() {
        multiplesOfCycle();
        upToCapacity();
        upBeforeDown();
        liftsIntoFullHalls();
        liftsByMost();
        mayGoByALater();
        shortestAndLongest();
        fromTheLastStepBack();
        walkersGoOneMore();
        walkerByStander();
        walkerOffTheLast();
        fullHallTrips();
        roomForOne();
        walkerBeforeAFullHall();
        bothSidesTrip();
        tripsAddUp();
        fixedInEvenSeconds();
        fixedStays();
        fixedOfTwo();
        unlessStopped();
        firstThenSecond();
        likeGoals();
        whoWalks();
        countsInAnyMode();
        stepTaken();
        standModeSides();
        fixedSides();
    }

    private static void multiplesOfCycle() {
        Edge.sentence("III (4): A LIFT, if t is a multiple of CYCLE");
        for (int cycle : new int[] {2, 3, 98, 99}) {
            MovingStairs x = Edge.halls(99, 9);
            x.link(2, 0, 1, 1, cycle);
            x.burst(0, 0, 0, 1, 9, true, false);
            x.run(1);
            Edge.is("in SECOND 0 by " + cycle, x.all(0), 1);
            x.run(cycle - 1);
            Edge.is("not ahead of the CYCLE " + cycle, x.all(0), 1);
            x.run(1);
            Edge.is("in SECOND " + cycle, x.all(0), 2);
            x.run(cycle);
            Edge.is("in SECOND twice " + cycle, x.all(0), 3);
        }
    }

    private static void upToCapacity() {
        Edge.sentence("III (4): up to CAPACITY of those on WHEELS whose ROUTE it is");
        for (int capacity : new int[] {1, 2, 19, 20}) {
            MovingStairs x = Edge.halls(999, 999);
            x.link(2, 0, 1, capacity, 2);
            x.burst(0, 0, 0, 1, 21, true, false);
            x.burst(0, 0, 1, 0, 21, true, false);
            x.burst(0, 0, 0, 1, 50, false, false);
            x.run(1);
            Edge.is("below by " + capacity, x.of(0, 21), 21 - capacity);
            Edge.is("above by " + capacity, x.of(1, 20), 21 - capacity);
            Edge.is("able ones by " + capacity, x.of(0, 11), 50);
            Edge.is("taken by " + capacity, x.on(0, 5), 2 * capacity);
            Edge.is("off by " + capacity, x.on(0, 6), 2 * capacity);
        }
        MovingStairs y = Edge.halls(99, 99, 99);
        y.link(2, 0, 1, 20, 2);
        y.link(2, 0, 2, 20, 2);
        y.burst(0, 0, 0, 2, 5, true, false);
        y.run(1);
        Edge.is("none of another ROUTE", y.on(0, 5), 0);
        Edge.is("all of its own", y.on(1, 5), 5);
    }

    /** Hall 1 has ROOM for one; lift 0 is between 0 and 1, and lift 1 leads on from 1 to 2 much later. */
    private static MovingStairs betweenLifts() {
        MovingStairs x = Edge.halls(99, 1, 99);
        x.link(2, 0, 1, 9, 2);
        x.link(2, 1, 2, 9, 99);
        x.run(1);
        return x;
    }

    private static void upBeforeDown() {
        Edge.sentence("III (4): first from LOW up, then from HIGH down");
        MovingStairs x = betweenLifts();
        x.burst(1, 0, 0, 2, 1, true, false);
        x.burst(1, 0, 1, 0, 1, true, false);
        x.run(2);
        Edge.is("he above was in the way", x.of(0, 22), 1);
        Edge.is("and is down", x.all(0), 1);
        x.run(2);
        Edge.is("two SECONDS later there is room", x.of(1, 22), 1);
        MovingStairs y = Edge.halls(1, 99, 99);
        y.link(2, 0, 1, 9, 2);
        y.link(2, 0, 2, 9, 99);
        y.run(1);
        y.burst(1, 0, 0, 1, 1, true, false);
        y.burst(1, 0, 1, 2, 1, true, false);
        y.run(2);
        Edge.is("who went up made room for who comes down", y.of(0, 22), 1);
    }

    private static void liftsIntoFullHalls() {
        Edge.sentence("III (4): each is in the other HALL at once, if fewer than ROOM are there (or it is the GOAL)");
        MovingStairs x = betweenLifts();
        x.burst(1, 0, 0, 2, 3, true, false);
        x.run(2);
        Edge.is("one of three", x.of(1, 22), 1);
        Edge.is("two wait", x.of(0, 22), 2);
        x.burst(3, 0, 0, 1, 3, true, false);
        x.run(2);
        Edge.is("all for whom it is the GOAL, of most first", x.all(0), 2);
        Edge.sentence("III (4): else none more that way");
        Edge.is("but none behind one who can't", x.of(0, 21), 1);
        Edge.is("two to 2 as before", x.of(0, 22), 2);
        Edge.is("it isn't over", x.of(1, 3), -1);
        MovingStairs y = Edge.halls(99, 3, 99);
        y.link(2, 0, 1, 9, 2);
        y.link(2, 1, 2, 9, 99);
        y.run(1);
        y.burst(1, 0, 1, 0, 5, false, false);
        y.burst(1, 0, 0, 2, 2, true, false);
        y.run(2);
        Edge.is("none into a hall above its ROOM", y.on(0, 5), 0);
    }

    private static void liftsByMost() {
        Edge.sentence("III (4): one by one: of the GOAL of which most wait, of like ones the lowest");
        MovingStairs x = Edge.halls(99, 99, 99, 99);
        x.link(2, 0, 1, 4, 2);
        x.link(2, 1, 2, 1, 99);
        x.link(2, 1, 3, 1, 99);
        x.run(1);
        x.burst(1, 0, 0, 3, 3, true, false);
        x.burst(1, 0, 0, 1, 1, true, false);
        x.burst(1, 0, 0, 2, 2, true, false);
        x.burst(1, 0, 0, 1, 60, false, false);
        x.run(2);
        Edge.is("3, 2, 3 and then 1 of three alike", x.all(0), 1);
        Edge.is("to 2", x.of(1, 22), 1);
        Edge.is("to 3", x.of(1, 23), 2);
        Edge.is("left to 2", x.of(0, 22), 1);
        Edge.is("left to 3", x.of(0, 23), 1);
    }

    private static void mayGoByALater() {
        Edge.sentence("III (4): Who has gone by a LIFT in this SECOND may go by a later one.");
        MovingStairs x = Edge.halls(9, 9, 9, 9);
        x.link(2, 0, 1, 1, 2);
        x.link(2, 2, 1, 1, 3);
        x.link(2, 2, 3, 1, 6);
        x.burst(0, 0, 0, 3, 1, true, false);
        x.run(1);
        Edge.is("up, down and up in SECOND 0", x.all(0), 1);
        MovingStairs y = Edge.halls(9, 9, 9);
        y.link(2, 1, 2, 1, 2);
        y.link(2, 0, 1, 1, 2);
        y.burst(0, 0, 0, 2, 1, true, false);
        y.run(1);
        Edge.is("not by an earlier one", y.of(1, 22), 1);
        y.run(2);
        Edge.is("two SECONDS later", y.all(0), 1);
    }

    private static void shortestAndLongest() {
        Edge.sentence("Terms: STAIR (kind 0) and FIXED (1) of LENGTH n (2 .. 40 STEPS)");
        for (int length : new int[] {2, 3, 39, 40}) {
            for (int kind = 0; kind < 2; kind++) {
                MovingStairs x = Edge.halls(9, 9);
                x.link(kind, 0, 1, length, 0);
                x.burst(0, 0, 0, 1, 1, false, false);
                int seconds = kind == 0 ? length : 2 * length;
                x.run(seconds);
                Edge.is("on the last of " + length, x.step(0, 0, length - 1), 1);
                Edge.is("not off yet", x.all(0), 0);
                x.run(1);
                Edge.is("off of " + length, x.all(0), 1);
                Edge.is("nobody is on it", x.on(0, 0), 0);
            }
        }
    }

    private static void fromTheLastStepBack() {
        Edge.sentence("III (4): from the last STEP back: each moves one STEP on; who was on the last steps off");
        MovingStairs x = Edge.halls(99, 9);
        x.link(0, 0, 1, 4, 0);
        x.mode(0, 1);
        x.burst(0, 0, 0, 1, 40, false, false);
        for (int second = 0; second < 10; second++) {
            x.run(1);
            for (int step = 0; step < 4; step++) {
                Edge.is("right", x.step(0, 0, step), step <= second ? 1 : -1);
                Edge.is("left", x.step(0, 1, step), step <= second ? 1 : -1);
            }
            Edge.is("off", x.all(0), Math.max(0, 2 * (second - 3)));
        }
    }

    private static void walkersGoOneMore() {
        Edge.sentence("III (4): One who walks (told as taken) then goes one STEP more, if that is free");
        MovingStairs x = Edge.halls(99, 9);
        x.link(0, 0, 1, 7, 0);
        Check.law(x, "walk 10;");
        x.burst(0, 0, 0, 1, 9, false, false);
        for (int second = 0; second < 4; second++) {
            x.run(1);
            for (int step = 0; step < 7; step++) {
                boolean there = step % 2 == 0 && step <= 2 * second;
                Edge.is("step " + step + " in " + second, x.step(0, 1, step), there ? 11 : -1);
            }
        }
        x.mode(0, 1);
        x.by(-1);
        x.run(1);
        Edge.is("one is off", x.all(0), 1);
        Edge.is("they walk on as they were taken", x.step(0, 1, 6), 11);
        Edge.is("who is taken now stands", x.step(0, 1, 0), 1);
        Edge.is("on both sides", x.step(0, 0, 0), 1);
    }

    private static void walkerByStander() {
        Edge.sentence("III (4): then goes one STEP more, if that is free (taken by one who stands)");
        MovingStairs x = Edge.halls(99, 9);
        x.link(0, 0, 1, 6, 0);
        x.mode(0, 1);
        Check.law(x, "walk 10;");
        x.burst(0, 0, 0, 1, 2, false, false);
        x.burst(2, 0, 0, 1, 1, false, false);
        x.run(2);
        x.mode(0, 0);
        x.run(1);
        Edge.is("he stands two ahead", x.step(0, 1, 2), 1);
        Edge.is("he walks", x.step(0, 1, 0), 11);
        x.run(1);
        Edge.is("the other is at 3", x.step(0, 1, 3), 1);
        Edge.is("2 was free", x.step(0, 1, 2), 11);
        x.run(1);
        Edge.is("the other is at 4", x.step(0, 1, 4), 1);
        Edge.is("4 was taken", x.step(0, 1, 3), 11);
        x.run(1);
        Edge.is("the other is on the last", x.step(0, 1, 5), 1);
        Edge.is("the last was taken", x.step(0, 1, 4), 11);
        x.run(1);
        Edge.is("both step off", x.all(0), 3);
    }

    private static void walkerOffTheLast() {
        Edge.sentence("III (4): or there is none more (off)");
        for (int length = 2; length < 8; length++) {
            MovingStairs x = Edge.halls(9, 9);
            x.link(0, 0, 1, length, 0);
            Check.law(x, "walk 10;");
            x.burst(0, 0, 0, 1, 1, false, false);
            x.run((length + 1) / 2);
            Edge.is("not off of " + length, x.all(0), 0);
            x.run(1);
            Edge.is("off of " + length, x.all(0), 1);
            Edge.is("counted once", x.on(0, 6), 1);
            Edge.is("nobody is left", x.on(0, 0), 0);
        }
    }

    /** Stair 0 leads from 0 to 1, and 1 from there to 2; so many fill hall 1 from SECOND 0 on. */
    private static MovingStairs before(int room, int filled, int mode) {
        MovingStairs x = Edge.halls(99, room, 99);
        x.link(0, 0, 1, 2, 0);
        x.link(0, 1, 2, 2, 0);
        x.mode(0, mode);
        if (filled > 0) {
            x.burst(0, 0, 1, 0, filled, true, false);
        }
        return x;
    }

    private static void fullHallTrips() {
        Edge.sentence("III (4): To step off into a HALL that has ROOM or more in it, and isn't the GOAL, can't be");
        for (int filled = 3; filled < 7; filled++) {
            MovingStairs x = before(5, filled, 1);
            x.burst(0, 0, 0, 2, 1, false, false);
            x.run(3);
            Edge.is("a trip by " + filled, x.all(3), filled < 5 ? 0 : 1);
            Edge.is("off by " + filled, x.on(0, 6), filled < 5 ? 1 : 0);
            MovingStairs y = before(5, filled, 1);
            y.burst(0, 0, 0, 1, 1, false, false);
            y.run(3);
            Edge.is("no trip into the GOAL by " + filled, y.all(3), 0);
            Edge.is("arrived by " + filled, y.all(0), 1);
        }
    }

    private static void roomForOne() {
        Edge.sentence("III (4): the STAIR is TRIPPED (one more TRIP), as it is then: those already moved stay moved");
        MovingStairs x = before(5, 4, 1);
        x.turn(1, 0);
        x.turn(1, 1);
        x.burst(0, 0, 0, 2, 4, false, false);
        x.run(3);
        Edge.is("one has room", x.on(0, 6), 1);
        Edge.is("the next trips it", x.all(3), 1);
        Edge.is("right, last: moved there", x.step(0, 0, 1), 2);
        Edge.is("right, first: left", x.step(0, 0, 0), -1);
        Edge.is("left, last: can't", x.step(0, 1, 1), 2);
        Edge.is("left, first: not moved", x.step(0, 1, 0), 2);
        Edge.is("on it", x.on(0, 0), 3);
    }

    private static void walkerBeforeAFullHall() {
        Edge.sentence("III (4): To step off .. can't be (one who walks comes to the last STEP and would go one more)");
        MovingStairs x = before(1, 1, 0);
        Check.law(x, "walk 10;");
        x.link(0, 0, 1, 5, 0);
        x.turn(0, 0);
        x.burst(0, 0, 0, 2, 1, false, false);
        x.run(3);
        Edge.is("on the last STEP of 5", x.step(2, 1, 4), 12);
        Edge.is("which is not off", x.on(2, 3), 0);
        x.run(1);
        Edge.is("from there he can't", x.on(2, 3), 1);
        Edge.is("and stays", x.step(2, 1, 4), 12);
        MovingStairs y = before(1, 1, 0);
        Check.law(y, "walk 10;");
        y.link(0, 0, 1, 4, 0);
        y.turn(0, 0);
        y.burst(0, 0, 0, 2, 1, false, false);
        y.run(2);
        Edge.is("on the last but one of 4", y.step(2, 1, 2), 12);
        y.run(1);
        Edge.is("one STEP on", y.step(2, 1, 3), 12);
        Edge.is("and TRIPPED", y.on(2, 3), 1);
        Edge.is("one TRIP", y.all(3), 1);
    }

    private static void bothSidesTrip() {
        Edge.sentence("III (4): SIDE 0, then 1 .. nobody else moves on it now");
        MovingStairs x = before(1, 1, 1);
        x.burst(0, 0, 0, 2, 2, false, false);
        x.burst(1, 0, 0, 2, 1, false, false);
        x.run(3);
        Edge.is("one TRIP by two who can't", x.all(3), 1);
        Edge.is("right, last", x.step(0, 0, 1), 2);
        Edge.is("left, last", x.step(0, 1, 1), 2);
        Edge.is("right, first: not moved", x.step(0, 0, 0), 2);
        MovingStairs y = Edge.halls(99, 1, 99);
        y.link(0, 0, 1, 3, 0);
        y.link(0, 1, 2, 3, 0);
        y.turn(1, 0);
        y.turn(1, 1);
        Check.law(y, "walk 5;");
        y.burst(0, 0, 1, 0, 1, true, false);
        y.burst(0, 0, 0, 2, 3, false, false);
        y.run(2);
        Edge.is("who stood is at 1", y.step(0, 0, 1), 2);
        Edge.is("who walked is on the last", y.step(0, 1, 2), 12);
        Edge.is("the third stands", y.step(0, 0, 0), 2);
        y.run(1);
        Edge.is("the left trips it", y.all(3), 1);
        Edge.is("when the right has moved: last", y.step(0, 0, 2), 2);
        Edge.is("and behind it", y.step(0, 0, 1), 2);
    }

    private static void tripsAddUp() {
        Edge.sentence("III (4): (one more TRIP)");
        MovingStairs x = before(1, 1, 1);
        x.link(0, 0, 1, 2, 0);
        x.turn(0, 0);
        x.burst(0, 0, 0, 2, 2, false, false);
        x.run(1);
        x.turn(0, 1);
        x.burst(1, 0, 0, 2, 2, false, false);
        x.run(5);
        Edge.is("two STAIRS", x.all(3), 2);
        Edge.is("both", x.on(0, 3) + x.on(2, 3), 2);
        for (int i = 0; i < 3; i++) {
            x.reset(0);
            x.run(1);
        }
        Edge.is("anew each time", x.all(3), 5);
    }

    private static void fixedInEvenSeconds() {
        Edge.sentence("III (4): A FIXED one that goes, if t is even: likewise, but nobody walks");
        for (int begin = 0; begin < 2; begin++) {
            MovingStairs x = Edge.halls(9, 9);
            x.link(1, 0, 1, 3, 0);
            Check.law(x, "walk 10;");
            x.run(10 + begin);
            x.burst(10 + begin, 0, 0, 1, 1, false, false);
            x.run(1);
            Edge.is("taken at once", x.on(0, 5), 1);
            Edge.is("nobody walks", x.step(0, 0, 0), 1);
            for (int step = 1; step < 3; step++) {
                if (x.about(0) % 2 == 1) {
                    x.run(1);
                    Edge.is("not in an odd SECOND", x.step(0, 0, step), -1);
                }
                x.run(1);
                Edge.is("in an even one to " + step, x.step(0, 0, step), 1);
            }
            x.run(1);
            Edge.is("not off yet", x.all(0), 0);
            x.run(1);
            Edge.is("off", x.all(0), 1);
        }
    }

    private static void fixedStays() {
        Edge.sentence("III (4): and who can't go on (STEP taken, HALL full) stays where he is");
        MovingStairs x = Edge.halls(99, 2, 99);
        x.link(1, 0, 1, 3, 0);
        x.link(0, 1, 2, 2, 0);
        x.burst(0, 0, 1, 0, 1, true, false);
        x.burst(1, 0, 1, 0, 1, true, false);
        x.burst(0, 0, 0, 2, 3, false, false);
        x.burst(3, 0, 0, 2, 2, false, false);
        x.run(9);
        Edge.is("right, last", x.step(0, 0, 2), 2);
        Edge.is("left, last", x.step(0, 1, 2), 2);
        Edge.is("right, behind it", x.step(0, 0, 1), 2);
        Edge.is("left, behind it", x.step(0, 1, 1), 2);
        Edge.is("right, first", x.step(0, 0, 0), 2);
        Edge.is("no TRIP", x.all(3) + x.on(0, 3), 0);
        x.run(20);
        Edge.is("all stay", x.on(0, 0), 5);
        x.link(2, 0, 1, 1, 30);
        x.run(2);
        Edge.is("SECOND", x.about(0), 31);
        Edge.is("a lift takes one away behind them", x.of(1, 0), 1);
        x.run(2);
        Edge.is("then one has room", x.on(0, 6), 1);
        Edge.is("those behind move on", x.step(0, 0, 1) * 10 + x.step(0, 0, 0), 20 - 1);
        Edge.is("left they stay", x.step(0, 1, 2) * 10 + x.step(0, 1, 1), 22);
        MovingStairs y = Edge.halls(99, 1, 99);
        y.link(1, 0, 1, 2, 0);
        y.burst(0, 0, 1, 0, 1, true, false);
        y.burst(0, 0, 0, 1, 1, false, false);
        y.run(5);
        Edge.is("into the GOAL he can go", y.all(0), 1);
    }

    private static void fixedOfTwo() {
        Edge.sentence("III (4): likewise (from the last STEP back, SIDE 0, then 1)");
        MovingStairs x = Edge.halls(99, 1, 99);
        x.link(1, 0, 1, 2, 0);
        x.link(0, 1, 2, 40, 0);
        x.burst(0, 0, 0, 2, 8, false, false);
        x.run(5);
        Edge.is("SIDE 0 is off", x.step(0, 0, 1), 2);
        Edge.is("SIDE 1 had no room", x.on(0, 6), 1);
        Edge.is("it stays", x.step(0, 1, 1) * 10 + x.step(0, 1, 0), 22);
        Edge.is("on the right one is taken", x.on(0, 5), 5);
        x.run(1);
        Edge.is("none in an odd SECOND, as both are taken", x.on(0, 5), 5);
    }

    private static void unlessStopped() {
        Edge.sentence("III (4): Then, unless TRIPPED, or WANTED is another WAY, or STOPPED");
        MovingStairs x = Edge.halls(99, 99);
        x.link(0, 0, 1, 5, 0);
        x.link(1, 0, 1, 2, 0);
        x.turn(1, 0);
        x.burst(0, 0, 0, 1, 9, false, false);
        x.run(1);
        Edge.is("it goes", x.on(0, 5), 1);
        x.turn(0, 0);
        x.run(1);
        Edge.is("STOPPED", x.on(0, 5), 1);
        x.turn(0, 1);
        x.turn(0, 2);
        x.run(1);
        Edge.is("WANTED is another WAY", x.on(0, 5), 1);
        Edge.is("but he moves", x.step(0, 0, 1), 1);
        x.turn(0, 1);
        x.run(1);
        Edge.is("as before", x.on(0, 5) > 1, true);
    }

    private static void firstThenSecond() {
        Edge.sentence("III (4): up to two are taken from its foot's HALL, of ABLE ones whose ROUTE it is");
        for (int many = 1; many < 4; many++) {
            for (int kind = 0; kind < 2; kind++) {
                MovingStairs x = Edge.halls(9, 9, 9);
                x.link(kind, 0, 1, 5, 0);
                x.mode(0, 1);
                x.burst(0, 0, 0, 1, many, false, false);
                x.burst(0, 0, 0, 1, 5, true, false);
                x.burst(0, 0, 0, 2, 5, false, false);
                x.burst(0, 0, 1, 0, 5, false, false);
                x.run(1);
                Edge.is("of " + many, x.on(0, 5), Math.min(many, 2));
                Edge.is("none on wheels", x.of(0, 21), 5);
                Edge.is("none of another ROUTE", x.of(0, 12), 5);
                Edge.is("none from its head", x.of(1, 10), 5);
            }
        }
    }

    private static void likeGoals() {
        Edge.sentence("III (4): (of the GOAL of which most wait, of like ones the lowest, each time)");
        for (int kind = 0; kind < 2; kind++) {
            int[][] due = {{1, 2}, {2, 1}, {2, 1}, {1, 2}, {2, 2}};
            int[][] waiting = {{1, 1}, {1, 2}, {2, 3}, {3, 3}, {1, 3}};
            for (int i = 0; i < due.length; i++) {
                MovingStairs x = Edge.halls(9, 9, 9);
                x.link(kind, 0, 1, 5, 0);
                x.link(0, 1, 2, 5, 0);
                x.mode(0, 1);
                x.burst(0, 0, 0, 2, waiting[i][1], false, false);
                x.burst(0, 0, 0, 1, waiting[i][0], false, false);
                x.burst(0, 0, 0, 1, 9, true, false);
                x.run(1);
                Edge.is("the first of " + i, x.step(0, 0, 0), due[i][0]);
                Edge.is("the second of " + i, x.step(0, 1, 0), due[i][1]);
            }
        }
    }

    private static void whoWalks() {
        Edge.sentence("III (4): one walks if W * (c + 1) / 10 is above W * c / 10 (both cut), c being how many it took");
        for (int w = 0; w <= 10; w++) {
            MovingStairs x = Edge.halls(99, 9);
            x.link(0, 0, 1, 2, 0);
            Check.law(x, "walk 12-" + (12 - w) + ";");
            x.burst(0, 1, 0, 1, 1, false, false);
            for (int c = 0; c < 21; c++) {
                x.run(1);
                boolean walks = w * (c + 1) / 10 > w * c / 10;
                Edge.is("right, c " + c + " by " + w, x.step(0, 0, 0), walks ? -1 : 1);
                Edge.is("left, c " + c + " by " + w, x.step(0, 1, 0), walks ? 11 : -1);
            }
        }
    }

    private static void countsInAnyMode() {
        Edge.sentence("III (4): c being how many it took so far");
        MovingStairs x = Edge.halls(99, 99);
        x.link(0, 0, 1, 9, 0);
        x.mode(0, 1);
        Check.law(x, "walk 1;");
        x.burst(0, 0, 0, 1, 9, false, false);
        x.run(5);
        Edge.is("nine in MODE 1", x.on(0, 5), 9);
        x.mode(0, 0);
        x.burst(5, 0, 0, 1, 1, false, false);
        x.run(1);
        Edge.is("the tenth walks", x.step(0, 1, 0), 11);
        x.run(9);
        x.turn(0, 2);
        x.burst(15, 1, 1, 0, 1, false, false);
        x.run(9);
        Edge.is("19 are taken, the latest stands", x.on(0, 5) * 10 + x.step(0, 0, 0), 190);
        x.run(1);
        Edge.is("the other WAY the 20th walks", x.step(0, 1, 0), 10);
    }

    private static void stepTaken() {
        Edge.sentence("III (4): to the first STEP; if that is taken, nobody is (none behind either)");
        int[] taken = {1, 1, 1, 1, 1, 2, 2, 2, 2, 2, 1};
        for (int w = 0; w <= 10; w++) {
            MovingStairs x = Edge.halls(99, 9);
            x.link(0, 0, 1, 9, 0);
            Check.law(x, "walk " + w + ";");
            x.burst(0, 0, 0, 1, 50, false, false);
            x.run(1);
            Edge.is("by " + w, x.on(0, 5), taken[w]);
            Edge.is("who stands, by " + w, x.step(0, 0, 0), w < 10 ? 1 : -1);
            Edge.is("who walks, by " + w, x.step(0, 1, 0), w < 5 ? -1 : 11);
        }
    }

    private static void standModeSides() {
        Edge.sentence("III (4): In MODE 1 .. nobody walks: SIDE 0, if that STEP is taken SIDE 1");
        MovingStairs x = Edge.halls(99, 9);
        x.link(0, 0, 1, 9, 0);
        x.mode(0, 1);
        Check.law(x, "walk 10;");
        x.burst(0, 0, 0, 1, 1, false, false);
        x.burst(1, 0, 0, 1, 2, false, false);
        x.burst(2, 0, 0, 1, 3, false, false);
        x.run(1);
        Edge.is("one: right", x.step(0, 0, 0) * 10 + x.step(0, 1, 0), 10 - 1);
        x.run(1);
        Edge.is("two: both", x.step(0, 0, 0) * 10 + x.step(0, 1, 0), 11);
        x.run(1);
        Edge.is("three: both", x.step(0, 0, 0) * 10 + x.step(0, 1, 0), 11);
        Edge.is("one waits", x.of(0, 0), 1);
    }

    private static void fixedSides() {
        Edge.sentence("III (4): on FIXED ones .. if that STEP is taken SIDE 1, if that is too nobody");
        MovingStairs x = Edge.halls(99, 9);
        x.link(1, 0, 1, 9, 0);
        x.burst(0, 0, 0, 1, 1, false, false);
        x.burst(1, 0, 0, 1, 2, false, false);
        x.run(1);
        Edge.is("right", x.step(0, 0, 0) * 10 + x.step(0, 1, 0), 10 - 1);
        x.run(1);
        Edge.is("left, as the right is taken", x.step(0, 0, 0) * 10 + x.step(0, 1, 0), 11);
        Edge.is("nobody more", x.of(0, 0), 1);
        x.run(1);
        Edge.is("both moved, one is taken", x.step(0, 0, 0) * 10 + x.step(0, 1, 0), 10 - 1);
        Edge.is("nobody waits", x.of(0, 0), 0);
    }
}
