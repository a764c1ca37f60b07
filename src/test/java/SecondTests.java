/** Promise 14 with part III: what happens in seconds; promises 5, 7, 15 to 17 and 19 by the way. */
final class SecondTests {
    private SecondTests() {
    }

    static void runAll() {
        runs();
        farthestSecond();
        burstsInTime();
        burstsOfThePast();
        lettingIn();
        shutting();
        counting();
        overOnlyAtTheEnd();
        waitedAtMost();
        standing();
        walking();
        walkerBehindStander();
        walkersGoOnInModeOne();
        firstOfMost();
        takenByMode();
        goalIsFull();
        trips();
        walkerTrips();
        tripInTheMiddle();
        tripLetsOthersWait();
        turnWhileFull();
        turnedAndStopped();
        stoppedMeanwhile();
        downward();
        fixedSteps();
        fixedInOddSeconds();
        fixedBeforeAFullHall();
        lifts();
        liftBeforeAFullHall();
        liftIntoItsGoal();
        routesOfASecond();
    }

    /** Halls with those rooms. */
    private static MovingStairs halls(int... rooms) {
        MovingStairs x = new MovingStairs();
        for (int room : rooms) {
            x.hall(room);
        }
        return x;
    }

    private static void runs() {
        MovingStairs x = new MovingStairs();
        int[] wrong = {0, -1, 301, Integer.MIN_VALUE, Integer.MAX_VALUE};
        for (int n : wrong) {
            Check.is("run " + n, x.run(n), -1);
        }
        Check.is("second", x.about(0), 0);
        Check.is("run 1", x.run(1), 1);
        Check.is("run 300", x.run(300), 301);
        Check.is("second", x.about(0), 301);
    }

    private static void farthestSecond() {
        MovingStairs x = halls(5, 5);
        x.link(0, 0, 1, 5, 0);
        for (int i = 0; i < 333; i++) {
            x.run(300);
        }
        Check.is("second", x.about(0), 99900);
        Check.is("run beyond 99999", x.run(100), -1);
        Check.is("second stays", x.about(0), 99900);
        Check.is("felt beyond", x.felt(0, 100), -1);
        Check.is("ways beyond", x.ways(1, 100, 1), -1);
        Check.is("least beyond", x.least(0, 100, 0), -1);
        Check.is("standing beyond", x.standing(0, 100), -1000000);
        Check.is("ways up to 99999", x.ways(1, 99, 1), 0);
        Check.is("least up to 99999", x.least(0, 99, 0), 60);
        Check.is("standing up to 99999", x.standing(0, 99), 0);
        Check.is("run up to 99999", x.run(99), 99999);
        Check.is("run 1 more", x.run(1), -1);
    }

    private static void burstsInTime() {
        MovingStairs x = halls(500, 5);
        x.burst(2, 0, 0, 1, 1, false, false);
        x.burst(3, 2, 0, 1, 10, true, false);
        x.burst(4, 999, 0, 1, 100, false, true);
        int[] due = {0, 0, 1, 11, 111, 121, 121, 131};
        for (int i = 0; i < due.length; i++) {
            x.run(1);
            Check.is("in the hall behind " + i, x.of(0, 0), due[i]);
        }
        Check.is("on wheels", x.of(0, 21), 30);
        x.run(300);
        x.run(300);
        x.run(300);
        x.run(94);
        Check.is("second", x.about(0), 1002);
        Check.is("from the street once", x.of(0, 11), 101);
        Check.is("ahead of its second time", x.of(0, 1), 0);
        x.run(2);
        Check.is("outside, as the hall is full", x.of(0, 1), 100);
    }

    private static void burstsOfThePast() {
        MovingStairs x = halls(500, 5);
        x.run(10);
        x.burst(3, 0, 0, 1, 1, false, false);
        x.burst(3, 4, 0, 1, 10, false, false);
        x.run(1);
        Check.is("second 10", x.of(0, 0), 0);
        x.run(1);
        Check.is("second 11", x.of(0, 0), 10);
    }

    private static void lettingIn() {
        MovingStairs x = halls(9, 9, 5);
        x.burst(0, 0, 2, 1, 3, false, true);
        x.burst(0, 0, 2, 0, 2, true, true);
        x.burst(0, 0, 2, 0, 2, false, true);
        x.run(1);
        Check.is("able to 0", x.of(2, 10), 2);
        Check.is("wheels to 0", x.of(2, 20), 2);
        Check.is("able to 1", x.of(2, 11), 1);
        Check.is("outside", x.of(2, 1), 2);
        Check.is("in it", x.of(2, 0), 5);
        Check.is("never over", x.of(2, 3), -1);
    }

    private static void shutting() {
        MovingStairs x = halls(9, 9);
        x.bar(0, 3);
        x.burst(0, 1, 0, 1, 2, false, true);
        x.run(1);
        Check.is("2 come in", x.of(0, 0), 2);
        x.run(1);
        Check.is("2 are below the bar", x.of(0, 0), 4);
        Check.is("not shut", x.of(0, 2), 0);
        x.run(1);
        Check.is("4 are not", x.of(0, 0), 4);
        Check.is("shut", x.of(0, 2), 1);
        x.bar(0, 4);
        x.run(1);
        Check.is("the bar itself shuts", x.of(0, 2), 2);
        Check.is("outside", x.of(0, 1), 4);
        x.bar(0, 5);
        x.run(1);
        Check.is("all come in that have room", x.of(0, 0), 9);
        Check.is("outside", x.of(0, 1), 1);
        x.bar(1, 0);
        x.run(2);
        Check.is("bar 0 shuts an empty hall", x.of(1, 2), 2);
    }

    private static void counting() {
        MovingStairs x = halls(3, 9);
        x.burst(1, 0, 0, 1, 2, false, false);
        x.burst(2, 0, 0, 1, 2, true, true);
        x.burst(3, 0, 0, 1, 2, true, false);
        x.run(1);
        Check.is("waited behind 0", x.all(1), 0);
        x.run(1);
        Check.is("waited behind 1", x.all(1), 2);
        x.run(1);
        Check.is("waited behind 2", x.all(1), 6);
        Check.is("outside behind 2", x.of(0, 1), 1);
        Check.is("not over", x.of(0, 3), -1);
        x.run(1);
        Check.is("waited behind 3", x.all(1), 12);
        Check.is("over", x.of(0, 3), 3);
        x.run(1);
        Check.is("over stays the first", x.of(0, 3), 3);
    }

    private static void overOnlyAtTheEnd() {
        MovingStairs x = halls(3, 9);
        x.link(0, 0, 1, 9, 0);
        x.mode(0, 1);
        x.burst(0, 0, 0, 1, 5, false, false);
        x.run(3);
        Check.is("two were taken at once", x.of(0, 3), -1);
    }

    private static void waitedAtMost() {
        MovingStairs x = halls(999, 9);
        for (int i = 0; i < 30; i++) {
            x.burst(0, 1, 0, 1, 200, false, i % 2 == 0);
        }
        long waited = 0;
        long there = 0;
        for (int i = 0; i < 3; i++) {
            x.run(300);
        }
        for (int i = 0; i < 900; i++) {
            there += 6000;
            waited += there;
        }
        Check.is("more would have waited", waited > 1000000000L, true);
        Check.is("waited", x.all(1), 1000000000);
        Check.is("in the hall", x.of(0, 0) + x.of(0, 1), 900 * 6000);
        Check.is("ways can't grow", x.ways(0, 1, 1), -1);
        x.link(0, 0, 1, 5, 0);
        Check.is("waited doesn't grow", x.ways(1, 5, 1), 0);
    }

    private static void standing() {
        MovingStairs x = halls(9, 9);
        x.link(0, 0, 1, 3, 0);
        Check.law(x, "walk 0;");
        x.burst(0, 0, 0, 1, 3, false, false);
        for (int second = 0; second < 7; second++) {
            x.run(1);
            for (int step = 0; step < 3; step++) {
                boolean there = second - step >= 0 && second - step < 3;
                Check.is("step " + step + " behind " + second, x.step(0, 0, step), there ? 1 : -1);
                Check.is("left behind " + second, x.step(0, 1, step), -1);
            }
            Check.is("taken behind " + second, x.on(0, 5), Math.min(3, second + 1));
            Check.is("off behind " + second, x.on(0, 6), Math.max(0, Math.min(3, second - 2)));
            Check.is("arrived behind " + second, x.all(0), Math.max(0, Math.min(3, second - 2)));
        }
        Check.is("on it", x.on(0, 0), 0);
    }

    private static void walking() {
        MovingStairs x = halls(9, 9);
        x.link(0, 0, 1, 4, 0);
        x.link(0, 0, 1, 5, 0);
        Check.law(x, "walk 10;");
        x.burst(0, 0, 0, 1, 1, false, false);
        x.run(1);
        Check.is("walks", x.step(0, 1, 0), 11);
        x.run(1);
        Check.is("two steps on", x.step(0, 1, 2), 11);
        Check.is("gone from the first", x.step(0, 1, 0), -1);
        Check.is("not between", x.step(0, 1, 1), -1);
        x.run(1);
        Check.is("over the last step", x.all(0), 1);
        x.turn(0, 0);
        x.burst(3, 0, 0, 1, 1, false, false);
        x.run(1);
        Check.is("walks on the other", x.step(1, 1, 0), 11);
        x.run(2);
        Check.is("on its last step", x.step(1, 1, 4), 11);
        Check.is("not off", x.all(0), 1);
        x.run(1);
        Check.is("off", x.all(0), 2);
    }

    private static void walkerBehindStander() {
        MovingStairs x = halls(9, 9);
        x.link(0, 0, 1, 8, 0);
        x.mode(0, 1);
        x.burst(0, 0, 0, 1, 2, false, false);
        x.burst(1, 0, 0, 1, 1, false, false);
        x.run(1);
        Check.is("stands on the left", x.step(0, 1, 0), 1);
        x.mode(0, 0);
        Check.law(x, "walk 10;");
        x.run(1);
        Check.is("walks", x.step(0, 1, 0), 11);
        Check.is("ahead of it", x.step(0, 1, 1), 1);
        x.run(1);
        Check.is("one step on, behind the other", x.step(0, 1, 1), 11);
        Check.is("the other", x.step(0, 1, 2), 1);
        x.run(5);
        Check.is("the other on the last step", x.step(0, 1, 7), 1);
        Check.is("behind it", x.step(0, 1, 6), 11);
        x.run(1);
        Check.is("all are off", x.all(0), 3);
    }

    private static void walkersGoOnInModeOne() {
        MovingStairs x = halls(9, 9);
        x.link(0, 0, 1, 9, 0);
        Check.law(x, "walk 10;");
        x.burst(0, 0, 0, 1, 1, false, false);
        x.run(1);
        x.mode(0, 1);
        x.run(1);
        Check.is("still walking", x.step(0, 1, 2), 11);
    }

    private static void firstOfMost() {
        MovingStairs x = halls(99, 99, 99, 99);
        x.link(0, 0, 1, 9, 0);
        x.link(0, 1, 2, 9, 0);
        x.link(0, 1, 3, 9, 0);
        x.mode(0, 1);
        x.burst(0, 0, 0, 3, 3, false, false);
        x.burst(0, 0, 0, 1, 2, false, false);
        x.burst(0, 0, 0, 2, 3, false, false);
        x.burst(0, 0, 0, 1, 9, true, false);
        int[][] due = {{2, 3}, {1, 2}, {3, 1}, {2, 3}};
        for (int second = 0; second < due.length; second++) {
            x.run(1);
            Check.is("right in " + second, x.step(0, 0, 0), due[second][0]);
            Check.is("left in " + second, x.step(0, 1, 0), due[second][1]);
        }
        x.run(1);
        Check.is("nobody on wheels", x.step(0, 0, 0), -1);
        Check.is("they wait", x.of(0, 21), 9);
    }

    private static void takenByMode() {
        MovingStairs x = halls(99, 99);
        x.link(0, 0, 1, 40, 0);
        x.burst(0, 0, 0, 1, 60, false, false);
        Check.law(x, "walk 5;");
        x.run(1);
        Check.is("stander and walker", x.on(0, 5), 2);
        Check.is("right", x.step(0, 0, 0), 1);
        Check.is("left", x.step(0, 1, 0), 11);
        x.by(-1);
        x.run(1);
        Check.is("c 2 walks, c 3 stands", x.on(0, 5), 4);
        x.run(1);
        Check.is("c 4 walks, c 5 stands", x.on(0, 5), 6);
        x.run(1);
        Check.is("c 6 stands, c 7 walks", x.on(0, 5), 8);
        x.run(1);
        Check.is("c 8 stands, c 9 walks", x.on(0, 5), 10);
    }

    private static void goalIsFull() {
        MovingStairs x = halls(9, 1, 9);
        x.link(0, 0, 1, 2, 0);
        x.burst(0, 0, 1, 2, 3, false, false);
        x.burst(0, 0, 0, 1, 1, false, false);
        x.run(4);
        Check.is("who has arrived isn't in the hall", x.of(1, 0), 3);
        Check.is("arrived in a full hall", x.all(0), 1);
        Check.is("no trip", x.all(3), 0);
    }

    private static void trips() {
        MovingStairs x = halls(9, 1, 9);
        x.link(0, 0, 1, 2, 0);
        x.link(0, 1, 2, 2, 0);
        x.burst(0, 0, 1, 0, 1, false, false);
        x.burst(0, 0, 0, 2, 3, false, false);
        Check.law(x, "walk 0;");
        x.run(2);
        Check.is("not yet", x.on(0, 3), 0);
        x.run(1);
        Check.is("tripped", x.on(0, 3), 1);
        Check.is("trips", x.all(3), 1);
        Check.is("on it", x.on(0, 0), 2);
        Check.is("taken", x.on(0, 5), 2);
        Check.is("last step", x.step(0, 0, 1), 2);
        Check.is("first step", x.step(0, 0, 0), 2);
        Check.is("no route by a tripped one", x.route(0, 2, false), -1);
        Check.is("turned to its way", x.turn(0, 1), true);
        x.run(3);
        Check.is("tripped still", x.on(0, 3), 1);
        Check.is("trips still", x.all(3), 1);
        Check.is("reset", x.reset(0), true);
        Check.is("not tripped", x.on(0, 3), 0);
        Check.is("goes", x.on(0, 2), 1);
        Check.is("route", x.route(0, 2, false), 0);
        x.run(1);
        Check.is("trips again", x.all(3), 2);
        Check.is("reset", x.reset(0), true);
        x.turn(0, 0);
        x.run(2);
        Check.is("a stopped one doesn't trip", x.all(3), 2);
        Check.is("nobody moves on it", x.step(0, 0, 1), 2);
    }

    private static void walkerTrips() {
        MovingStairs x = halls(9, 1, 9);
        x.link(0, 0, 1, 2, 0);
        x.link(0, 1, 2, 2, 0);
        x.burst(0, 0, 1, 0, 1, false, false);
        x.burst(0, 0, 0, 2, 3, false, false);
        Check.law(x, "walk 10;");
        x.run(1);
        Check.is("walks", x.step(0, 1, 0), 12);
        x.run(1);
        Check.is("moved to the last step", x.step(0, 1, 1), 12);
        Check.is("tripped", x.on(0, 3), 1);
        Check.is("nobody was taken", x.on(0, 5), 1);
    }

    private static void tripInTheMiddle() {
        MovingStairs x = halls(9, 1, 9);
        x.link(0, 0, 1, 2, 0);
        x.link(0, 1, 2, 2, 0);
        x.mode(0, 1);
        x.burst(0, 0, 0, 2, 6, false, false);
        x.run(2);
        Check.is("two and two", x.on(0, 0), 4);
        x.run(1);
        Check.is("tripped", x.on(0, 3), 1);
        Check.is("one is off", x.on(0, 6), 1);
        Check.is("right moved", x.step(0, 0, 1), 2);
        Check.is("from there", x.step(0, 0, 0), -1);
        Check.is("left is stuck", x.step(0, 1, 1), 2);
        Check.is("behind it nobody moved", x.step(0, 1, 0), 2);
        Check.is("nobody was taken", x.on(0, 5), 4);
        Check.is("the next link took the one", x.on(1, 0), 1);
        Check.is("the hall between", x.of(1, 0), 0);
        Check.is("two wait", x.of(0, 0), 2);
    }

    private static void tripLetsOthersWait() {
        MovingStairs x = halls(9, 1, 9);
        x.link(0, 1, 2, 2, 0);
        x.link(0, 0, 1, 2, 0);
        x.burst(0, 0, 1, 2, 1, false, false);
        x.burst(0, 0, 0, 2, 1, false, false);
        x.run(3);
        Check.is("the hall was left first", x.all(3), 0);
        Check.is("one is in it", x.of(1, 0), 1);
        x.run(3);
        Check.is("both arrived", x.all(0), 2);
    }

    private static void turnWhileFull() {
        MovingStairs x = halls(9, 9);
        x.link(0, 0, 1, 3, 0);
        x.burst(0, 0, 0, 1, 9, false, false);
        x.burst(0, 0, 1, 0, 1, false, false);
        x.run(1);
        Check.is("turned", x.turn(0, 2), true);
        Check.is("way", x.on(0, 1), 1);
        Check.is("wanted", x.on(0, 4), 2);
        Check.is("goes", x.on(0, 2), 1);
        Check.is("no route up", x.route(0, 1, false), -1);
        Check.is("no route down yet", x.route(1, 0, false), -1);
        x.run(3);
        Check.is("took nobody more", x.on(0, 5), 1);
        Check.is("empty", x.on(0, 0), 0);
        Check.is("way still", x.on(0, 1), 1);
        x.run(1);
        Check.is("turned", x.on(0, 1), 2);
        Check.is("took one from above at once", x.on(0, 5), 2);
        Check.is("to 0", x.step(0, 0, 0), 0);
        Check.is("turned back", x.turn(0, 1), true);
        Check.is("turned to 2 again", x.turn(0, 2), true);
        Check.is("wanted is its way", x.route(1, 0, false), 0);
    }

    private static void turnedAndStopped() {
        MovingStairs x = halls(9, 9);
        x.link(0, 0, 1, 2, 0);
        x.burst(0, 0, 0, 1, 1, false, false);
        x.run(1);
        x.turn(0, 2);
        x.run(2);
        Check.is("empty", x.on(0, 0), 0);
        x.turn(0, 0);
        Check.is("way", x.on(0, 1), 1);
        Check.is("wanted", x.on(0, 4), 2);
        x.run(1);
        Check.is("way is wanted", x.on(0, 1), 2);
        Check.is("stopped still", x.on(0, 2), 0);
    }

    private static void stoppedMeanwhile() {
        MovingStairs x = halls(9, 9);
        x.link(0, 0, 1, 3, 0);
        x.burst(0, 0, 0, 1, 9, false, false);
        x.run(1);
        x.turn(0, 0);
        x.run(2);
        Check.is("nobody moves", x.step(0, 0, 0), 1);
        Check.is("nobody is taken", x.on(0, 5), 1);
        x.turn(0, 2);
        Check.is("a full one stays stopped", x.on(0, 2), 0);
        x.run(2);
        Check.is("nobody moves", x.step(0, 0, 0), 1);
        x.turn(0, 1);
        Check.is("goes as before", x.on(0, 2), 1);
        x.run(1);
        Check.is("moved", x.step(0, 0, 1), 1);
        Check.is("a stander and a walker are taken", x.on(0, 5), 3);
    }

    private static void downward() {
        MovingStairs x = halls(9, 9);
        x.link(0, 0, 1, 3, 0);
        x.turn(0, 2);
        x.burst(0, 0, 1, 0, 1, false, false);
        x.run(1);
        Check.is("the first step is above", x.step(0, 0, 0), 0);
        x.run(2);
        Check.is("the last below", x.step(0, 0, 2), 0);
        x.run(1);
        Check.is("arrived", x.all(0), 1);
    }

    private static void fixedSteps() {
        MovingStairs x = halls(9, 9);
        x.link(1, 0, 1, 2, 0);
        x.burst(0, 0, 0, 1, 6, false, false);
        int[] taken = {2, 2, 4, 4, 6, 6, 6, 6, 6};
        int[] off = {0, 0, 0, 0, 2, 2, 4, 4, 6};
        for (int second = 0; second < taken.length; second++) {
            x.run(1);
            Check.is("taken behind " + second, x.on(0, 5), taken[second]);
            Check.is("off behind " + second, x.on(0, 6), off[second]);
        }
    }

    private static void fixedInOddSeconds() {
        MovingStairs x = halls(9, 9);
        x.link(1, 0, 1, 3, 0);
        Check.law(x, "walk 10;");
        x.burst(1, 0, 0, 1, 3, false, false);
        x.run(2);
        Check.is("taken in an odd second", x.on(0, 5), 2);
        Check.is("nobody walks", x.step(0, 1, 0), 1);
        x.run(1);
        Check.is("moved in an even one", x.step(0, 0, 1), 1);
        Check.is("left too", x.step(0, 1, 1), 1);
        Check.is("right first", x.step(0, 0, 0), 1);
        Check.is("alone", x.step(0, 1, 0), -1);
        x.turn(0, 0);
        x.run(4);
        Check.is("stopped", x.step(0, 0, 1), 1);
    }

    private static void fixedBeforeAFullHall() {
        MovingStairs x = halls(9, 1, 9);
        x.link(1, 0, 1, 2, 0);
        x.link(0, 1, 2, 2, 0);
        x.turn(1, 0);
        x.turn(1, 1);
        x.burst(0, 0, 0, 2, 5, false, false);
        x.burst(0, 0, 1, 0, 1, true, false);
        x.run(7);
        Check.is("no trip", x.all(3), 0);
        Check.is("all steps are taken", x.on(0, 0), 4);
        Check.is("nobody is off", x.on(0, 6), 0);
        Check.is("not tripped", x.on(0, 3), 0);
        x.link(2, 0, 1, 5, 2);
        x.run(2);
        Check.is("the lift left room for one", x.on(0, 6), 0);
        x.run(2);
        Check.is("one goes on in an even second", x.on(0, 6), 1);
        Check.is("right was first", x.step(0, 0, 1), 2);
        Check.is("the other can't", x.step(0, 1, 1), 2);
        Check.is("one more is taken", x.on(0, 5), 5);
        Check.is("on the right", x.step(0, 0, 0), 2);
    }

    private static void lifts() {
        MovingStairs x = halls(9, 9, 9, 9);
        x.link(2, 0, 1, 3, 2);
        x.link(2, 1, 2, 3, 2);
        x.link(2, 1, 3, 3, 3);
        x.burst(1, 0, 0, 2, 2, true, false);
        x.burst(1, 0, 0, 3, 3, true, false);
        x.burst(1, 0, 0, 1, 4, false, false);
        x.burst(1, 0, 1, 0, 1, true, false);
        x.run(2);
        Check.is("not in second 1", x.on(0, 5), 0);
        x.run(1);
        Check.is("three up, one down", x.on(0, 5), 4);
        Check.is("as many off", x.on(0, 6), 4);
        Check.is("nobody stays on it", x.on(0, 0), 0);
        Check.is("one to 2 is left", x.of(0, 22), 1);
        Check.is("one to 3 is left", x.of(0, 23), 1);
        Check.is("able ones don't go", x.of(0, 11), 4);
        Check.is("two to 3 are above", x.of(1, 23), 2);
        Check.is("one went on, one came down", x.all(0), 2);
        x.run(1);
        Check.is("two to 3 arrived", x.all(0), 4);
    }

    private static void liftBeforeAFullHall() {
        MovingStairs x = halls(9, 1, 9);
        x.link(2, 0, 1, 5, 3);
        x.link(2, 1, 2, 5, 99);
        x.burst(1, 0, 0, 2, 3, true, false);
        x.burst(1, 0, 0, 1, 1, true, false);
        x.run(4);
        Check.is("one has room, none more goes", x.on(0, 5), 1);
        Check.is("he is there", x.of(1, 22), 1);
        Check.is("one to 1 waits", x.of(0, 21), 1);
        x.burst(4, 0, 1, 0, 2, true, false);
        x.burst(4, 0, 0, 1, 3, true, false);
        x.run(3);
        Check.is("of most: four to 1 arrive up to the like ones", x.of(0, 21), 1);
        Check.is("those to 2 are as they were", x.of(0, 22), 2);
        Check.is("three up and two down", x.all(0), 5);
    }

    private static void liftIntoItsGoal() {
        MovingStairs x = halls(9, 1, 9);
        x.link(2, 0, 1, 5, 3);
        x.burst(1, 0, 1, 2, 4, false, false);
        x.burst(1, 0, 0, 1, 7, true, false);
        x.run(4);
        Check.is("into a full goal, by capacity", x.all(0), 5);
        Check.is("two wait", x.of(0, 21), 2);
    }

    private static void routesOfASecond() {
        MovingStairs x = halls(9, 9, 1, 9);
        x.link(0, 0, 2, 2, 0);
        x.link(0, 2, 1, 2, 0);
        x.link(0, 0, 1, 9, 0);
        x.mode(0, 1);
        x.burst(0, 0, 2, 3, 1, false, false);
        x.burst(0, 0, 0, 1, 2, false, false);
        x.burst(2, 0, 0, 1, 4, false, false);
        x.run(2);
        Check.is("two by the short one", x.on(0, 5), 2);
        x.run(1);
        Check.is("it trips", x.on(0, 3), 1);
        Check.is("but routes stay in that second", x.on(2, 5), 0);
        Check.is("all wait", x.of(0, 0), 4);
        x.run(1);
        Check.is("by the long one then", x.on(2, 5), 1);
    }
}
