/** The edges that promise 14 and part III name: what happens in a SECOND. */
final class EdgeSecondTests {
    private static final int LOWEST = Edge.LOWEST;
    private static final int HIGHEST = Edge.HIGHEST;

    private EdgeSecondTests() {
    }

    static void runAll() {
        runsAtMost();
        lastSecond();
        burstsInOrder();
        burstsAheadOfTheirTime();
        trainsComeIn();
        backAsToldByAll();
        backOfHalls();
        barOrMore();
        shutClauses();
        whileFewerThanRoom();
        goalByGoal();
        arrivedInAnyWay();
        routesForAllOfASecond();
        emptyOnesTurnAhead();
        linksInOrder();
        namesOfShutAndBack();
        walkAsTheTurnBegins();
        waitIsOfTheFoot();
        secondIsAsked();
        waited();
        waitedAtMost();
        shutSeconds();
        overTheFirst();
    }

    private static void runsAtMost() {
        Edge.sentence("14: So many SECONDS (1 .. 300): the next SECOND. NONE for others");
        Edge.refused(-1, x -> x.run(0), x -> x.run(-1), x -> x.run(301), x -> x.run(302), x -> x.run(LOWEST),
            x -> x.run(HIGHEST), x -> x.run(HIGHEST - 5), x -> x.run(-300), x -> x.run(100000));
        MovingStairs x = new MovingStairs();
        Edge.is("1", x.run(1), 1);
        Edge.is("300", x.run(300), 301);
        Edge.is("299", x.run(299), 600);
    }

    private static void lastSecond() {
        Edge.sentence("14: NONE beyond 99999.");
        MovingStairs x = Edge.halls(99, 9);
        x.link(0, 0, 1, 2, 0);
        x.turn(0, 0);
        x.burst(99998, 0, 0, 1, 3, false, false);
        x.burst(99999, 0, 0, 1, 50, false, false);
        for (int i = 0; i < 333; i++) {
            x.run(300);
        }
        Edge.is("100 more", x.run(100), -1);
        Edge.is("300 more", x.run(300), -1);
        Edge.is("SECOND", x.about(0), 99900);
        Edge.is("98 more", x.run(98), 99998);
        Edge.is("2 more", x.run(2), -1);
        Edge.is("nobody came", x.of(0, 0), 0);
        Edge.is("tried 2 more: ways", x.ways(1, 2, 1), -1);
        Edge.is("tried 2 more: least", x.least(0, 2, 0), -1);
        Edge.is("tried 2 more: felt", x.felt(0, 2), -1);
        Edge.is("tried 2 more: standing", x.standing(0, 2), -1000000);
        Edge.is("tried 1 more: ways", x.ways(1, 1, 1), 2);
        Edge.is("tried 1 more: least", x.least(0, 1, 0), 60);
        Edge.is("tried 1 more: standing", x.standing(0, 1), 0);
        Edge.is("1 more", x.run(1), 99999);
        Edge.is("those of 99998 came", x.of(0, 0), 3);
        Edge.is("1 more again", x.run(1), -1);
        Edge.is("tried 1 more: ways", x.ways(1, 1, 0), -1);
        Edge.is("tried 1 more: least", x.least(0, 1, 1), -1);
        Edge.is("tried 1 more: felt", x.felt(0, 1), -1);
        Edge.is("tried 1 more: standing", x.standing(0, 1), -1000000);
        Edge.is("SECOND stays", x.about(0), 99999);
        Edge.is("image", x.image(), 99999);
        Edge.is("a burst of the last SECOND may be told", x.burst(99999, 0, 0, 1, 1, false, false), 3);
        Edge.is("back", x.back(), 99999);
    }

    private static void burstsInOrder() {
        Edge.sentence("III (1): BURSTS in their order: those whose time it is.");
        MovingStairs x = Edge.halls(99, 99);
        Check.law(x, "back outside >= 4;");
        x.burst(0, 0, 0, 1, 3, false, true);
        x.burst(0, 0, 0, 1, 2, false, true);
        x.burst(0, 0, 0, 1, 10, false, true);
        x.bar(0, 0);
        x.run(1);
        Edge.is("the third goes back, by the first two", x.all(2), 10);
        Edge.is("the two are outside", x.of(0, 1), 5);
        MovingStairs y = Edge.halls(99, 99);
        Check.law(y, "back count >= 4;");
        y.burst(0, 0, 0, 1, 7, false, true);
        y.burst(0, 0, 0, 1, 4, false, false);
        y.burst(0, 0, 0, 1, 20, false, true);
        y.run(1);
        Edge.is("the one behind the train goes back", y.all(2), 20);
        Edge.is("the one ahead of it doesn't", y.of(0, 0), 11);
        Edge.is("nor do they come a SECOND later", y.run(9) + y.of(0, 0), 10 + 11);
    }

    private static void burstsAheadOfTheirTime() {
        Edge.sentence("Terms: at a SECOND s .. come to a HALL; every e SECONDS again, or once (e 0)");
        MovingStairs x = Edge.halls(999, 9);
        x.burst(6, 2, 0, 1, 1, false, false);
        x.burst(7, 3, 0, 1, 10, false, false);
        x.burst(5, 0, 0, 1, 100, false, false);
        int[] due = {0, 0, 0, 0, 0, 100, 101, 111, 112, 112, 123, 123, 124, 134};
        for (int second = 0; second < due.length; second++) {
            x.run(1);
            Edge.is("behind SECOND " + second, x.of(0, 0), due[second]);
        }
        x.burst(5, 0, 0, 1, 200, false, false);
        x.burst(13, 0, 0, 1, 200, false, false);
        x.burst(13, 1, 0, 1, 5, false, false);
        x.run(1);
        Edge.is("one that was due before comes no more, but again if it does", x.of(0, 0), 134 + 1 + 5);
    }

    private static void trainsComeIn() {
        Edge.sentence("III (1): By TRAIN: they are in the HALL.");
        MovingStairs x = Edge.halls(2, 9);
        Check.law(x, "shut 1<2; back 1<2;");
        x.bar(0, 0);
        x.burst(0, 1, 0, 1, 200, false, false);
        x.run(1);
        Edge.is("above ROOM, though SHUT", x.of(0, 0), 200);
        Edge.is("none go back", x.all(2), 0);
        Edge.is("none are outside", x.of(0, 1), 0);
        x.run(1);
        Edge.is("above ROOM already", x.of(0, 0), 400);
    }

    private static void backAsToldByAll() {
        Edge.sentence("III (1): if a back clause is so for the HALL, all N go BACK; else they are OUTSIDE of it");
        MovingStairs x = Edge.halls(3, 9);
        Check.law(x, "back outside > 3; back second = 5;");
        x.burst(0, 1, 0, 1, 4, false, true);
        x.run(1);
        Edge.is("three come in, one is outside", x.of(0, 0) * 10 + x.of(0, 1), 31);
        x.run(1);
        Edge.is("five are outside", x.of(0, 1), 5);
        Edge.is("none are back", x.all(2), 0);
        x.run(1);
        Edge.is("all four go back", x.all(2), 4);
        Edge.is("those outside stay", x.of(0, 1), 5);
        MovingStairs y = Edge.halls(99, 9);
        Check.law(y, "back second = 1; back second = 3;");
        y.burst(0, 1, 0, 1, 1, true, true);
        y.run(5);
        Edge.is("either clause", y.all(2), 2);
        Edge.is("the others", y.of(0, 21), 3);
        Edge.is("nobody waited who went back", y.all(1), 1 + 1 + 2 + 2 + 3);
    }

    private static void backOfHalls() {
        Edge.sentence("III (1): From the STREET: if a back clause is so for the HALL");
        MovingStairs x = Edge.halls(9, 20, 9, 9, 9, 30);
        Check.law(x, "back hall = 5 and room = 30; back hall*10+room = 30;");
        for (int hall = 0; hall < 6; hall++) {
            x.burst(0, 0, hall, (hall + 1) % 6, 1 + hall, false, true);
        }
        x.run(1);
        Edge.is("of 1 and 5", x.all(2), 2 + 6);
        for (int hall = 0; hall < 6; hall++) {
            Edge.is("in " + hall, x.of(hall, 0), hall == 1 || hall == 5 ? 0 : 1 + hall);
        }
    }

    private static void barOrMore() {
        Edge.sentence("III (2): SHUT, if who is in it are BAR or more");
        MovingStairs x = Edge.halls(9, 9, 9, 9);
        for (int hall = 0; hall < 3; hall++) {
            x.burst(0, 0, hall, 3, 3, false, false);
            x.burst(0, 0, hall, 3, 2, false, true);
        }
        x.bar(0, 4);
        x.bar(1, 3);
        x.bar(2, 2);
        x.bar(3, 0);
        x.run(1);
        Edge.is("3 are fewer than 4", x.of(0, 0) * 10 + x.of(0, 2), 50);
        Edge.is("3 are 3", x.of(1, 0) * 10 + x.of(1, 2), 31);
        Edge.is("3 are more than 2", x.of(2, 0) * 10 + x.of(2, 2), 31);
        Edge.is("0 are 0", x.of(3, 2), 1);
        x.run(1);
        Edge.is("5 are more than 4", x.of(0, 2), 1);
    }

    private static void shutClauses() {
        Edge.sentence("III (2): or a shut clause is so");
        MovingStairs x = Edge.halls(9, 9, 9);
        Check.law(x, "shut hall = 0 and second # 1; shut hall = 2; back 2<1;");
        for (int hall = 0; hall < 3; hall++) {
            x.burst(0, 1, hall, (hall + 1) % 3, 1, false, true);
        }
        x.run(3);
        Edge.is("0 was SHUT twice", x.of(0, 2), 2);
        Edge.is("and let in once", x.of(0, 0) * 10 + x.of(0, 1), 21);
        Edge.is("1 never", x.of(1, 2) * 10 + x.of(1, 0), 3);
        Edge.is("2 always", x.of(2, 2) * 10 + x.of(2, 0), 30);
        x.by(-1);
        x.run(1);
        Edge.is("without THE TEXT nobody shuts", x.of(2, 2), 3);
        Edge.is("and all come in", x.of(2, 0), 4);
    }

    private static void whileFewerThanRoom() {
        Edge.sentence("III (2): those OUTSIDE come in .. one by one while fewer than ROOM are in it");
        MovingStairs x = Edge.halls(5, 9);
        x.burst(0, 0, 0, 1, 4, false, false);
        x.burst(0, 0, 0, 1, 3, false, true);
        x.run(1);
        Edge.is("one has room", x.of(0, 0) * 10 + x.of(0, 1), 52);
        x.run(1);
        Edge.is("none has", x.of(0, 0) * 10 + x.of(0, 1), 52);
        Edge.is("it isn't over", x.of(0, 3), -1);
        x.burst(2, 0, 0, 1, 4, false, false);
        x.run(1);
        Edge.is("above ROOM none has", x.of(0, 0) * 10 + x.of(0, 1), 92);
        MovingStairs y = Edge.halls(5, 9);
        y.bar(0, 2);
        y.burst(0, 0, 0, 1, 1, false, false);
        y.burst(0, 0, 0, 1, 9, false, true);
        y.run(1);
        Edge.is("BAR isn't looked at as they come in", y.of(0, 0) * 10 + y.of(0, 1), 55);
    }

    private static void goalByGoal() {
        Edge.sentence("III (2): GOAL by GOAL, of each ABLE ahead of WHEELS");
        int[][] in = {{1, 0, 0, 0}, {2, 0, 0, 0}, {2, 1, 0, 0}, {2, 2, 0, 0}, {2, 2, 1, 0}, {2, 2, 2, 0}, {2, 2, 2, 1}};
        for (int room = 1; room <= 7; room++) {
            MovingStairs x = Edge.halls(9, room, 9);
            x.burst(0, 0, 1, 2, 2, true, true);
            x.burst(0, 0, 1, 2, 2, false, true);
            x.burst(0, 0, 1, 0, 2, true, true);
            x.burst(0, 0, 1, 0, 2, false, true);
            x.run(1);
            int[] due = in[room - 1];
            Edge.is("able to 0 by ROOM " + room, x.of(1, 10), due[0]);
            Edge.is("wheels to 0 by ROOM " + room, x.of(1, 20), due[1]);
            Edge.is("able to 2 by ROOM " + room, x.of(1, 12), due[2]);
            Edge.is("wheels to 2 by ROOM " + room, x.of(1, 22), due[3]);
            Edge.is("outside by ROOM " + room, x.of(1, 1), 8 - room);
        }
    }

    private static void arrivedInAnyWay() {
        Edge.sentence("III (1): Who comes to a HALL that is the GOAL (in any way) has ARRIVED and is in it no more.");
        MovingStairs x = Edge.halls(9, 1, 9, 9);
        x.link(0, 0, 1, 2, 0);
        x.link(1, 2, 1, 2, 0);
        x.link(2, 3, 1, 2, 2);
        x.burst(0, 0, 1, 0, 3, true, false);
        x.burst(0, 0, 0, 1, 1, false, false);
        x.burst(0, 0, 2, 1, 1, false, false);
        x.burst(0, 0, 3, 1, 1, true, false);
        x.run(1);
        Edge.is("by a lift", x.all(0), 1);
        x.run(2);
        Edge.is("by a stair", x.all(0), 2);
        x.run(2);
        Edge.is("by a fixed one", x.all(0), 3);
        Edge.is("in a hall that is over", x.of(1, 0), 3);
        Edge.is("without a TRIP", x.all(3), 0);
        Edge.is("nobody is on the way", x.of(0, 0) + x.of(2, 0) + x.of(3, 0) + x.on(0, 0) + x.on(1, 0), 0);
    }

    private static void routesForAllOfASecond() {
        Edge.sentence("III (3): ROUTES are found, for all of this SECOND");
        MovingStairs x = Edge.halls(99, 1, 99);
        x.link(0, 0, 1, 2, 0);
        x.link(0, 1, 2, 2, 0);
        x.link(0, 0, 2, 5, 0);
        x.burst(0, 0, 1, 0, 1, true, false);
        x.burst(0, 0, 0, 2, 1, false, false);
        x.burst(2, 0, 0, 2, 1, false, false);
        x.run(3);
        Edge.is("TRIPPED in this SECOND", x.on(0, 3), 1);
        Edge.is("so he waits", x.of(0, 12), 1);
        Edge.is("the other one takes nobody", x.on(2, 5), 0);
        x.run(1);
        Edge.is("in the next it does", x.on(2, 5), 1);
    }

    private static void emptyOnesTurnAhead() {
        Edge.sentence("III (3): ahead of that empty LINKS turn.");
        MovingStairs x = Edge.halls(99, 99, 99);
        x.link(0, 0, 1, 2, 0);
        x.link(0, 1, 2, 2, 0);
        x.turn(1, 2);
        x.burst(0, 0, 2, 1, 1, false, false);
        x.burst(3, 0, 0, 2, 1, false, false);
        x.run(1);
        x.turn(1, 1);
        x.run(2);
        Edge.is("link 1 is empty", x.on(1, 0), 0);
        Edge.is("no ROUTE yet", x.route(0, 2, false), -1);
        x.run(1);
        Edge.is("link 1 is turned", x.on(1, 1), 1);
        Edge.is("so link 0, that is ahead of it, takes him", x.on(0, 5), 1);
    }

    private static void linksInOrder() {
        Edge.sentence("III (4): LINKS in order.");
        MovingStairs x = Edge.halls(9, 9, 9);
        x.link(0, 0, 1, 2, 0);
        x.link(0, 1, 2, 2, 0);
        x.burst(0, 0, 0, 2, 1, false, false);
        x.run(3);
        Edge.is("a later one takes who has stepped off", x.on(1, 5), 1);
        MovingStairs y = Edge.halls(9, 9, 9);
        y.link(0, 1, 2, 2, 0);
        y.link(0, 0, 1, 2, 0);
        y.burst(0, 0, 0, 2, 1, false, false);
        y.run(3);
        Edge.is("an earlier one doesn't", y.on(0, 5), 0);
        Edge.is("he waits", y.of(1, 12), 1);
        y.run(1);
        Edge.is("till the next SECOND", y.on(0, 5), 1);
    }

    private static void namesOfShutAndBack() {
        Edge.sentence("II: hall (its number), count (who is in it), room, outside (of it); second");
        String asked = " second*2000+hall*1000+count*100+room+outside*10 = 3370;";
        MovingStairs x = Edge.halls(30, 40, 50);
        Check.law(x, "shut" + asked);
        x.burst(0, 0, 1, 0, 2, false, false);
        x.burst(0, 0, 1, 0, 1, true, false);
        x.burst(1, 0, 1, 0, 3, false, true);
        x.run(2);
        Edge.is("second 1, hall 1, count 3, room 40, outside 3", x.of(1, 2), 1);
        Edge.is("they stay outside", x.of(1, 1), 3);
        x.run(1);
        Edge.is("not so in second 2", x.of(1, 2), 1);
        Edge.is("no other hall", x.of(0, 2) + x.of(2, 2), 0);
        MovingStairs y = Edge.halls(30, 40, 50);
        Check.law(y, "back" + asked);
        y.burst(0, 0, 1, 0, 2, false, false);
        y.burst(1, 0, 1, 0, 3, true, true);
        y.burst(1, 0, 1, 0, 50, false, true);
        y.burst(1, 0, 1, 0, 1, true, false);
        y.burst(1, 0, 1, 0, 20, false, true);
        y.burst(1, 0, 0, 1, 20, false, true);
        y.run(2);
        Edge.is("the outside and count of that moment", y.all(2), 0);
        y.back();
        for (int room = 30; room < 60; room += 10) {
            y.hall(room);
        }
        Check.law(y, "back" + asked);
        y.burst(0, 0, 1, 0, 2, false, false);
        y.burst(1, 0, 1, 0, 1, true, false);
        y.burst(1, 0, 1, 0, 3, true, true);
        y.burst(1, 0, 1, 0, 20, false, true);
        y.burst(1, 0, 1, 0, 1, false, false);
        y.burst(1, 0, 1, 0, 50, false, true);
        y.run(2);
        Edge.is("second 1, hall 1, count 3, room 40, outside 3", y.all(2), 20);
    }

    private static void walkAsTheTurnBegins() {
        Edge.sentence("III (4): W walk (asked as the LINK's turn begins); load (who is on it), steps (LENGTH)");
        MovingStairs x = Edge.halls(9, 9);
        x.link(0, 0, 1, 2, 0);
        Check.law(x, "walk load*10;");
        x.burst(0, 2, 0, 1, 1, false, false);
        x.run(1);
        Edge.is("nobody was on it: he stands", x.step(0, 0, 0), 1);
        x.run(2);
        Edge.is("one was, who then stepped off: he walks", x.step(0, 1, 0), 11);
        Edge.is("nobody is ahead of him", x.on(0, 0), 1);
        MovingStairs y = Edge.halls(9, 9);
        y.link(0, 0, 1, 9, 0);
        y.link(0, 1, 0, 11, 0);
        Check.law(y, "walk (steps-10)*10;");
        y.burst(0, 0, 0, 1, 1, false, false);
        y.burst(0, 0, 1, 0, 1, false, false);
        y.run(1);
        Edge.is("by 9 STEPS nobody walks", y.step(0, 0, 0), 1);
        Edge.is("by 11 all do", y.step(1, 1, 0), 10);
    }

    private static void waitIsOfTheFoot() {
        Edge.sentence("II: wait (who is in the HALL it is taken from)");
        MovingStairs x = Edge.halls(9, 9, 9);
        x.link(0, 0, 1, 9, 0);
        x.link(0, 0, 2, 9, 0);
        Check.law(x, "walk (wait-1)*10;");
        x.burst(0, 0, 0, 1, 1, false, false);
        x.burst(0, 0, 0, 2, 1, false, false);
        x.run(1);
        Edge.is("two wait for the first turn", x.step(0, 1, 0), 11);
        Edge.is("one for the second", x.step(1, 0, 0), 2);
        MovingStairs y = Edge.halls(9, 9);
        y.link(0, 0, 1, 9, 0);
        y.turn(0, 2);
        Check.law(y, "walk (wait-3)*10;");
        y.burst(0, 0, 0, 1, 3, false, false);
        y.burst(0, 0, 1, 0, 1, false, false);
        y.burst(0, 0, 1, 0, 3, true, false);
        y.run(1);
        Edge.is("above, those on wheels too", y.step(0, 1, 0), 10);
        MovingStairs z = Edge.halls(9, 9, 9);
        z.link(2, 2, 0, 5, 2);
        z.link(0, 0, 1, 9, 0);
        Check.law(z, "walk (wait-1)*10;");
        z.burst(0, 0, 2, 1, 1, true, false);
        z.link(2, 0, 1, 5, 3);
        z.burst(0, 0, 0, 1, 1, false, false);
        z.run(1);
        Edge.is("who came by an earlier LINK too", z.step(1, 1, 0), 11);
    }

    private static void secondIsAsked() {
        Edge.sentence("II: NAMES: second (in each of the CLAUSES, whatever else is asked in it)");
        MovingStairs x = Edge.halls(9, 9);
        x.link(0, 0, 1, 2, 0);
        Check.law(x, "walk (second-3)*10; back second = 2;");
        x.bar(0, 0);
        x.bar(1, 0);
        x.burst(3, 1, 0, 1, 1, false, false);
        x.run(4);
        Edge.is("in SECOND 3 nobody walks", x.step(0, 0, 0), 1);
        x.run(1);
        Edge.is("in SECOND 4 all do", x.step(0, 1, 0), 11);
        MovingStairs y = Edge.halls(9, 9);
        Check.law(y, "back second = 2;");
        y.bar(0, 0);
        y.bar(1, 0);
        y.burst(1, 1, 0, 1, 1, false, true);
        y.run(4);
        Edge.is("one goes back", y.all(2), 1);
        Edge.is("two are outside", y.of(0, 1), 2);
    }

    private static void waited() {
        Edge.sentence("III (5): WAITED grows by all who are in HALLS and OUTSIDE");
        MovingStairs x = Edge.halls(9, 9, 9);
        x.link(0, 0, 1, 2, 0);
        x.burst(0, 0, 0, 1, 1, false, false);
        x.run(3);
        Edge.is("not by who is on a STAIR or has ARRIVED", x.all(1), 0);
        x.bar(2, 0);
        x.burst(3, 0, 2, 0, 4, true, true);
        x.burst(3, 0, 1, 0, 2, false, false);
        x.run(1);
        Edge.is("2 in and 4 outside", x.all(1), 6);
        x.run(1);
        Edge.is("in each SECOND", x.all(1), 12);
    }

    private static void waitedAtMost() {
        Edge.sentence("III (5): (1000000000 at most)");
        MovingStairs x = Edge.halls(999, 9);
        x.link(0, 0, 1, 2, 0);
        x.turn(0, 0);
        for (int i = 0; i < 25; i++) {
            x.burst(0, 1, 0, 1, 200, false, false);
        }
        Edge.run(x, 600);
        Edge.is("5000 each SECOND", x.all(1), 5000L * 600 * 601 / 2);
        x.run(30);
        long before = 5000L * 630 * 631 / 2;
        Edge.is("a little below", x.all(1), before);
        Edge.is("tried, just as far", x.ways(1, 2, 1) < 5000 * (631 + 632), true);
        x.run(1);
        Edge.is("one more SECOND", x.all(1), before + 5000 * 631);
        x.run(1);
        Edge.is("as much as there can be", x.all(1), 1000000000);
        Edge.is("WAYS can't grow it", x.ways(1, 5, 1), 0);
        x.run(300);
        Edge.is("it stays", x.all(1), 1000000000);
        x.image();
        x.back();
        Edge.is("behind an image too", x.all(1), 1000000000);
    }

    private static void shutSeconds() {
        Edge.sentence("III (5): for each HALL that was SHUT in (2): its SHUT SECONDS by 1");
        MovingStairs x = Edge.halls(9, 9);
        x.link(0, 0, 1, 9, 0);
        x.mode(0, 1);
        x.bar(0, 2);
        x.burst(0, 0, 0, 1, 2, false, false);
        x.run(1);
        Edge.is("SHUT in (2), though two were taken then", x.of(0, 0) * 10 + x.of(0, 2), 1);
        x.run(3);
        Edge.is("not SHUT later", x.of(0, 2), 1);
        x.burst(4, 0, 0, 1, 5, false, true);
        x.run(1);
        Edge.is("not SHUT in (2), though 3 are in it now", x.of(0, 0) * 10 + x.of(0, 2), 31);
        x.run(1);
        Edge.is("SHUT in the next SECOND", x.of(0, 2), 2);
    }

    private static void overTheFirst() {
        Edge.sentence("III (5): OVER: the first SECOND at which more than ROOM were in it then");
        MovingStairs x = Edge.halls(3, 99, 99);
        x.link(0, 0, 1, 9, 0);
        x.mode(0, 1);
        x.burst(0, 0, 0, 1, 5, false, false);
        x.run(1);
        Edge.is("five came, two were taken then", x.of(0, 3), -1);
        x.burst(4, 0, 0, 1, 6, false, false);
        x.run(4);
        Edge.is("six came, two were taken then", x.of(0, 3), 4);
        x.run(5);
        x.burst(9, 0, 0, 1, 9, false, false);
        x.run(5);
        Edge.is("the first stays", x.of(0, 3), 4);
        Edge.is("nobody outside makes it", x.of(1, 3), -1);
    }
}
