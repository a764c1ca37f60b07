import java.util.Arrays;

/** The edges that promises 26 to 34 and part V name. */
final class EdgeTableTests {
    private static final int LOWEST = Edge.LOWEST;
    private static final int HIGHEST = Edge.HIGHEST;
    private static final int NO_EFFECT = -1000000000;

    private EdgeTableTests() {
    }

    static void runAll() {
        daysForOthers();
        fortyDays();
        noClassHasBoth();
        classesThatHaveBoth();
        effectCut();
        mendsForOthers();
        sixMends();
        orderForOthers();
        wornAboveLimit();
        asTheMonthBegins();
        oneAtATime();
        lowestOrder();
        loadsForOthers();
        sixtyLoads();
        unloaded();
        takenForOthers();
        takenOfOne();
        eachOnItSoLong();
        twoInOne();
        takenOfMany();
        imageStays();
        allIsAsItWas();
        butTheTape();
        textsBehindTheImage();
    }

    private static void daysForOthers() {
        Edge.sentence("26: STANDING or not, a CLASS (0 .. 5), COUNT (0 .. 9999). NONE for others.");
        for (boolean stood : new boolean[] {false, true}) {
            Edge.refused(-1, x -> x.day(stood, -1, 5), x -> x.day(stood, 6, 5), x -> x.day(stood, LOWEST, 5),
                x -> x.day(stood, HIGHEST, 5), x -> x.day(stood, 1, -1), x -> x.day(stood, 1, 10000),
                x -> x.day(stood, 1, LOWEST), x -> x.day(stood, 1, HIGHEST), x -> x.day(stood, -6, 5),
                x -> x.day(stood, 11, 5));
        }
        MovingStairs x = new MovingStairs();
        Edge.is("CLASS 0, COUNT 0", x.day(false, 0, 0), 1);
        Edge.is("COUNT 9999", x.day(true, 0, 9999), 2);
        Edge.is("its EFFECT", x.effect(), 9999000);
        Edge.is("CLASS 5", x.day(false, 5, 9999), 3);
        Edge.is("COUNT 0", x.day(true, 5, 0), 4);
        Edge.is("both even out", x.effect(), 0);
    }

    private static void fortyDays() {
        Edge.sentence("26: how many there are. NONE if there are 40.");
        MovingStairs x = new MovingStairs();
        for (int i = 1; i < 40; i++) {
            Edge.is("day", x.day(true, 1, 10), i);
        }
        Edge.is("the 40th", x.day(false, 1, 4), 40);
        Edge.is("the 41st, standing", x.day(true, 1, 99), -1);
        Edge.is("the 41st, or not", x.day(false, 1, 99), -1);
        Edge.is("40", x.about(6), 40);
        Edge.is("their EFFECT", x.effect(), 6000);
    }

    private static void noClassHasBoth() {
        Edge.sentence("27: EFFECT in thousandths. -1000000000: no CLASS has both.");
        MovingStairs x = new MovingStairs();
        Edge.is("no DAYS", x.effect(), NO_EFFECT);
        for (int kind = 0; kind < 6; kind++) {
            x.day(kind % 2 == 0, kind, 100);
            Edge.is("one kind in each up to " + kind, x.effect(), NO_EFFECT);
        }
        for (int kind = 0; kind < 6; kind++) {
            MovingStairs y = new MovingStairs();
            y.day(true, kind, 7);
            y.day(false, (kind + 1) % 6, 5);
            Edge.is("of two CLASSES", y.effect(), NO_EFFECT);
            y.day(false, kind, 5);
            Edge.is("of one", y.effect(), 2000);
        }
    }

    private static void classesThatHaveBoth() {
        Edge.sentence("V: EFFECT: over CLASSES that have both .. times how many STANDING DAYS it has, together, by all of these");
        MovingStairs x = new MovingStairs();
        x.day(true, 0, 10);
        x.day(false, 0, 4);
        x.day(false, 0, 4);
        x.day(true, 1, 20);
        x.day(true, 1, 22);
        x.day(true, 1, 24);
        x.day(false, 1, 12);
        Edge.is("6 once, 10 three times", x.effect(), 9000);
        x.day(true, 2, 9999);
        x.day(false, 3, 9999);
        Edge.is("others aren't counted", x.effect(), 9000);
        x.day(false, 2, 9999);
        Edge.is("0 once more", x.effect(), 36000 / 5);
    }

    private static void effectCut() {
        Edge.sentence("V: (each in thousandths, cut) .. cut towards 0");
        MovingStairs x = new MovingStairs();
        x.day(true, 0, 1);
        x.day(true, 0, 0);
        x.day(true, 0, 1);
        x.day(false, 0, 0);
        Edge.is("666", x.effect(), 666);
        x.day(false, 0, 0);
        x.day(false, 0, 1);
        Edge.is("666 less 333", x.effect(), 333);
        x.day(true, 1, 0);
        x.day(false, 1, 0);
        Edge.is("999 by 4", x.effect(), 249);
        MovingStairs y = new MovingStairs();
        y.day(true, 0, 0);
        y.day(false, 0, 1);
        y.day(true, 1, 0);
        y.day(false, 1, 0);
        y.day(true, 1, 0);
        Edge.is("-1000 by 3", y.effect(), -333);
        y.day(true, 2, 1);
        y.day(true, 2, 1);
        y.day(false, 2, 2);
        y.day(false, 2, 1);
        Edge.is("-1000 and twice -500 by 5", y.effect(), -400);
    }

    private static void mendsForOthers() {
        Edge.sentence("28: WORN (0 .. 999), MORE (0 .. 99), LIMIT (0 .. 999), MONTHS (1 .. 9). NONE for others.");
        Edge.refused(-1, x -> x.mend(-1, 1, 1, 1), x -> x.mend(1000, 1, 1, 1), x -> x.mend(1, -1, 1, 1),
            x -> x.mend(1, 100, 1, 1), x -> x.mend(1, 1, -1, 1), x -> x.mend(1, 1, 1000, 1),
            x -> x.mend(1, 1, 1, 0), x -> x.mend(1, 1, 1, 10), x -> x.mend(1, 1, 1, -1),
            x -> x.mend(LOWEST, 1, 1, 1), x -> x.mend(1, LOWEST, 1, 1), x -> x.mend(1, 1, LOWEST, 1),
            x -> x.mend(1, 1, 1, LOWEST), x -> x.mend(HIGHEST, 1, 1, 1), x -> x.mend(1, HIGHEST, 1, 1),
            x -> x.mend(1, 1, HIGHEST, 1), x -> x.mend(1, 1, 1, HIGHEST));
        MovingStairs x = new MovingStairs();
        Edge.is("the least of each", x.mend(0, 0, 0, 1), 0);
        Edge.is("the greatest of each", x.mend(999, 99, 999, 9), 1);
        Edge.is("the second counts in no month", x.order(-1), 0);
        Edge.is("as it is begun in month 1", x.order(1), 1);
    }

    private static void sixMends() {
        Edge.sentence("28: its number. NONE if there are 6.");
        MovingStairs x = new MovingStairs();
        for (int i = 0; i < 6; i++) {
            Edge.is("mend", x.mend(9, 0, 0, 6 - i), i);
        }
        Edge.is("the seventh", x.mend(9, 0, 0, 1), -1);
        Edge.is("six", x.about(7), 6);
        for (int i = 0; i < 6; i++) {
            Edge.is("the shortest first", x.order(i), 5 - i);
        }
        Edge.is("1 and 1+2 and so on up to 1+2+3+4+5", x.order(-1), 1 + 3 + 6 + 10 + 15);
        Edge.is("order 6", x.order(6), -1);
    }

    private static void orderForOthers() {
        Edge.sentence("29: the i-th (from 0); i NONE: how many count. NONE for others, and without MENDS.");
        Edge.refused(-1, x -> x.order(-2), x -> x.order(2), x -> x.order(5), x -> x.order(6), x -> x.order(LOWEST),
            x -> x.order(HIGHEST));
        MovingStairs x = new MovingStairs();
        Edge.is("without MENDS", x.order(-1), -1);
        Edge.is("the first without", x.order(0), -1);
        x.mend(999, 99, 0, 9);
        Edge.is("one", x.order(0), 0);
        Edge.is("is begun at once", x.order(-1), 0);
        Edge.is("a second there isn't", x.order(1), -1);
        x.back();
        Edge.is("without them again", x.order(-1), -1);
    }

    private static int counted(int worn, int more, int limit) {
        MovingStairs x = new MovingStairs();
        x.mend(999, 0, 0, 9);
        x.mend(999, 0, 0, 9);
        x.mend(worn, more, limit, 9);
        return x.order(-1);
    }

    private static void wornAboveLimit() {
        Edge.sentence("V: each month in which one that isn't begun has WORN .. above LIMIT counts one");
        Edge.is("one below", counted(4, 0, 5), 9);
        Edge.is("just as much", counted(5, 0, 5), 9);
        Edge.is("one above", counted(6, 0, 5), 9 + 18);
        Edge.is("0 of 0", counted(0, 0, 0), 9);
        Edge.is("1 of 0", counted(1, 0, 0), 9 + 18);
        Edge.is("999 of 999", counted(999, 0, 999), 9);
        Edge.is("999 of 998", counted(999, 0, 998), 9 + 18);
    }

    private static void asTheMonthBegins() {
        Edge.sentence("V: has WORN (as that month begins), by a month MORE");
        Edge.is("from month 1 on", counted(5, 1, 5), 9 + 17);
        Edge.is("from month 17 on", counted(5, 1, 21), 9 + 1);
        Edge.is("from month 18 on, when it is begun", counted(5, 1, 22), 9);
        Edge.is("from month 6 on", counted(0, 99, 500), 9 + 12);
    }

    private static void oneAtATime() {
        Edge.sentence("V: One at a time, in an order (who is begun counts no more)");
        MovingStairs x = new MovingStairs();
        x.mend(5, 0, 0, 9);
        Edge.is("one", x.order(-1), 0);
        x.mend(5, 0, 0, 1);
        Edge.is("a month and then nine", x.order(-1), 1);
        Edge.is("the shorter first", x.order(0), 1);
        x.mend(5, 0, 0, 2);
        Edge.is("1 and 1+2", x.order(-1), 4);
        Edge.is("second", x.order(1), 2);
        Edge.is("third", x.order(2), 0);
        MovingStairs y = new MovingStairs();
        y.mend(0, 9, 9, 3);
        y.mend(0, 9, 18, 3);
        Edge.is("month 2 of the first, or none of the second", y.order(-1), 0);
        Edge.is("first the first", y.order(0), 0);
    }

    private static void lowestOrder() {
        Edge.sentence("V: of like ones that with the lowest first, then second, and so on");
        MovingStairs x = new MovingStairs();
        for (int i = 0; i < 6; i++) {
            x.mend(7, 0, 7, 9 - i);
        }
        for (int i = 0; i < 6; i++) {
            Edge.is("all alike: " + i, x.order(i), i);
        }
        Edge.is("none counts", x.order(-1), 0);
        MovingStairs y = new MovingStairs();
        y.mend(9, 0, 0, 2);
        y.mend(9, 0, 0, 1);
        y.mend(9, 0, 0, 2);
        y.mend(9, 0, 0, 1);
        Edge.is("1, 2, 4", y.order(-1), 7);
        Edge.is("first", y.order(0), 1);
        Edge.is("second", y.order(1), 3);
        Edge.is("third", y.order(2), 0);
        Edge.is("fourth", y.order(3), 2);
    }

    private static void loadsForOthers() {
        Edge.sentence("30: A LOAD (0 .. 80). NONE for others.");
        Edge.refused(-1, x -> x.load(-1), x -> x.load(81), x -> x.load(82), x -> x.load(LOWEST), x -> x.load(HIGHEST));
        MovingStairs x = new MovingStairs();
        Edge.is("80", x.load(80), 1);
        Edge.is("80 again", x.load(80), 2);
        Edge.is("two came and two went", x.taken(40, true), 2);
        Edge.is("at least too", x.taken(40, false), 2);
        Edge.is("39 steps hold 78", x.taken(39, true), -1);
        Edge.is("78", x.load(78), 3);
        Edge.is("none came then", x.taken(40, true), 2);
        x.unload();
        Edge.is("0", x.load(0), 1);
    }

    private static void sixtyLoads() {
        Edge.sentence("30: how many there are. NONE if there are 60.");
        MovingStairs x = new MovingStairs();
        for (int i = 1; i <= 60; i++) {
            Edge.is("load", x.load(4), i);
        }
        Edge.is("the 61st", x.load(4), -1);
        Edge.is("60", x.about(8), 60);
        Edge.is("two each SECOND of 59", x.taken(2, true), 118);
        Edge.is("at least too", x.taken(2, false), 118);
        Edge.is("unload", x.unload(), 60);
        Edge.is("then there is room", x.load(4), 1);
    }

    private static void unloaded() {
        Edge.sentence("31: LOADS are gone: how many there were.");
        MovingStairs x = new MovingStairs();
        Edge.is("none", x.unload(), 0);
        x.load(1);
        x.load(9);
        Edge.is("two", x.unload(), 2);
        Edge.is("none again", x.unload(), 0);
        Edge.is("about them", x.about(8), 0);
        Edge.is("TAKEN", x.taken(5, true), -1);
        x.load(2);
        Edge.is("what was told before is not looked at", x.taken(5, true), 0);
    }

    private static void takenForOthers() {
        Edge.sentence("32: TAKEN by LENGTH (2 .. 40). NONE: no LOADS, and for others.");
        for (boolean most : new boolean[] {false, true}) {
            Edge.refused(-1, x -> x.taken(1, most), x -> x.taken(0, most), x -> x.taken(-1, most),
                x -> x.taken(41, most), x -> x.taken(LOWEST, most), x -> x.taken(HIGHEST, most));
            MovingStairs x = new MovingStairs();
            Edge.is("no LOADS, 2", x.taken(2, most), -1);
            Edge.is("no LOADS, 40", x.taken(40, most), -1);
            x.load(0);
            Edge.is("2", x.taken(2, most), 0);
            Edge.is("40", x.taken(40, most), 0);
            for (int length : new int[] {1, 0, -1, -2, 41, 42, LOWEST, HIGHEST}) {
                Edge.is("by LENGTH " + length, x.taken(length, most), -1);
            }
            x.load(1);
            x.load(0);
            Edge.is("one SECOND on it is no STAIR", x.taken(1, most), -1);
        }
    }

    private static void taken(int length, int least, int most, int... loads) {
        MovingStairs x = new MovingStairs();
        for (int load : loads) {
            x.load(load);
        }
        Edge.is("least by " + length, x.taken(length, false), least);
        Edge.is("most by " + length, x.taken(length, true), most);
    }

    private static void takenOfOne() {
        Edge.sentence("V: TAKEN: how many stepped on from SECOND 1 on to the last");
        for (int length : new int[] {2, 3, 39, 40}) {
            taken(length, 0, 0, 0);
            taken(length, 0, 0, 1);
            taken(length, 0, 0, 2 * length);
            taken(length, length < 40 ? -1 : 0, length < 40 ? -1 : 0, Math.min(80, 2 * length + 1));
        }
    }

    private static void eachOnItSoLong() {
        Edge.sentence("V: each being on it n SECONDS");
        taken(2, 0, 0, 2, 0);
        taken(2, -1, -1, 3, 0);
        taken(2, 0, 0, 3, 2, 0);
        taken(2, -1, -1, 1, 0, 1, 0);
        taken(2, 1, 1, 0, 1, 1, 0);
        taken(2, -1, -1, 0, 1, 0);
        taken(3, 1, 1, 0, 1, 1, 1, 0);
        taken(3, -1, -1, 0, 1, 1, 0);
        taken(3, -1, -1, 0, 1, 1, 1, 1, 0);
        taken(3, 2, 2, 0, 1, 1, 1, 1, 1, 1, 0);
        taken(40, 0, 0, 3, 2, 1, 0);
    }

    private static void twoInOne() {
        Edge.sentence("V: 0 .. 2 stepping on in one");
        taken(2, 2, 2, 0, 2);
        taken(2, -1, -1, 0, 3);
        taken(2, 1, 2, 2, 3);
        taken(2, 2, 2, 2, 4);
        taken(2, -1, -1, 1, 4);
        taken(2, -1, -1, 4, 1);
        taken(2, 0, 0, 4, 2);
        taken(2, -1, -1, 4, 3, 4, 2);
        taken(40, 2, 2, 0, 2);
        taken(40, -1, -1, 0, 3);
        taken(40, -1, -1, 80, 77);
        taken(40, 0, 0, 80, 78);
        taken(40, -1, -1, 80, 79, 76);
    }

    private static void takenOfMany() {
        Edge.sentence("V: the least and the greatest that it can have been");
        taken(3, 0, 2, 2, 2);
        taken(3, 0, 2, 3, 3);
        taken(3, 1, 2, 5, 5);
        taken(3, 2, 4, 4, 4, 4);
        int[] same = new int[60];
        Arrays.fill(same, 1);
        taken(2, 29, 30, same);
        taken(40, 1, 2, same);
        Arrays.fill(same, 40);
        taken(40, 40, 78, same);
        Arrays.fill(same, 79);
        taken(40, 116, 117, same);
        Arrays.fill(same, 0);
        taken(40, 0, 0, same);
    }

    private static void imageStays() {
        Edge.sentence("33 and 34: THE IMAGE is as all is now: the SECOND. All is as at THE IMAGE again (it stays)");
        MovingStairs x = Edge.halls(9);
        Edge.is("of a new one", x.back(), 0);
        Edge.is("without halls", x.about(1), 0);
        x.hall(9);
        x.run(7);
        Edge.is("image", x.image(), 7);
        x.hall(9);
        for (int i = 0; i < 3; i++) {
            x.run(9);
            Edge.is("back", x.back(), 7);
            Edge.is("one hall", x.about(1), 1);
            Edge.is("another", x.hall(3), 1);
        }
        Edge.is("image of that", x.image(), 7);
        x.run(1);
        Edge.is("image later", x.image(), 8);
        Edge.is("back to the later", x.back(), 8);
        Edge.is("two halls", x.about(1), 2);
    }

    private static void allIsAsItWas() {
        Edge.sentence("V: AN IMAGE: all as it is");
        MovingStairs x = World.busy();
        MovingStairs y = World.busy();
        x.image();
        y.image();
        x.bar(0, 0);
        x.hall(5);
        x.hall(6);
        x.link(0, 3, 4, 9, 0);
        x.link(2, 4, 3, 9, 2);
        x.turn(0, 2);
        x.turn(1, 0);
        x.mode(3, 1);
        x.burst(7, 1, 3, 4, 9, false, false);
        x.by(-1);
        x.day(true, 1, 999);
        x.day(false, 4, 3);
        x.mend(9, 9, 9, 9);
        x.unload();
        x.load(80);
        x.run(60);
        x.back();
        World.alike(x, y);
        Edge.is("what was told is no more", x.of(3, 0), -1);
        Edge.is("nor the LINK", x.on(4, 0), -1);
        Edge.is("a HALL in its place", x.hall(9), 3);
        Edge.is("is empty", x.of(3, 0) + x.of(3, 1) + x.of(3, 2), 0);
        Edge.is("was never OVER", x.of(3, 3), -1);
        Edge.is("a LINK in its place", x.link(0, 0, 3, 9, 0), 4);
        Edge.is("is empty", x.on(4, 0) + x.on(4, 5) + x.on(4, 6) + x.on(4, 3), 0);
        Edge.is("its first STEP", x.step(4, 0, 0), -1);
        trippedAsItWas();
    }

    private static void trippedAsItWas() {
        MovingStairs x = Edge.halls(99, 1, 99);
        x.link(0, 0, 1, 2, 0);
        x.link(0, 1, 2, 2, 0);
        x.burst(0, 0, 1, 0, 3, true, false);
        x.burst(0, 0, 0, 2, 3, false, true);
        x.bar(1, 1);
        Check.law(x, "back hall = 2;");
        x.burst(0, 5, 2, 0, 6, true, true);
        x.run(3);
        x.image();
        x.reset(0);
        x.mode(0, 1);
        x.run(9);
        Edge.is("more go BACK", x.all(2), 18);
        x.reset(0);
        x.by(-1);
        x.back();
        Edge.is("TRIPPED", x.on(0, 3), 1);
        Edge.is("TRIPS", x.all(3), 1);
        Edge.is("gone BACK", x.all(2), 6);
        Edge.is("OVER", x.of(1, 3), 0);
        Edge.is("SHUT SECONDS", x.of(1, 2), 3);
        Edge.is("THE TEXT", x.about(5), 0);
        Edge.is("its STEP", x.step(0, 0, 1), 2);
        x.back();
        inItsPlace();
    }

    private static void inItsPlace() {
        MovingStairs x = Edge.halls(9, 9);
        x.image();
        x.hall(1);
        x.hall(9);
        x.link(0, 0, 2, 2, 0);
        x.link(0, 2, 3, 2, 0);
        x.bar(2, 0);
        x.burst(0, 0, 2, 0, 3, true, false);
        x.burst(0, 0, 2, 0, 3, true, true);
        x.burst(0, 0, 0, 3, 3, false, false);
        x.mode(0, 1);
        x.run(3);
        Edge.is("SHUT, OVER, TRIPPED", x.of(2, 2) * 100 + x.of(2, 3) * 10 + x.on(0, 3), 301);
        x.back();
        x.hall(9);
        x.hall(9);
        x.link(0, 0, 2, 2, 0);
        Edge.is("BAR", x.of(2, 4), 999);
        Edge.is("in it, OUTSIDE, SHUT SECONDS", x.of(2, 0) * 100 + x.of(2, 1) * 10 + x.of(2, 2), 0);
        Edge.is("OVER", x.of(2, 3), -1);
        Edge.is("on WHEELS", x.of(2, 20), 0);
        for (int what = 0; what < 8; what++) {
            Edge.is("on " + what, x.on(0, what), what == 1 || what == 2 || what == 4 ? 1 : 0);
        }
        for (int step = 0; step < 2; step++) {
            Edge.is("right " + step, x.step(0, 0, step), -1);
            Edge.is("left " + step, x.step(0, 1, step), -1);
        }
        MovingStairs y = Edge.halls(9, 9);
        y.image();
        y.link(0, 0, 1, 2, 0);
        y.burst(0, 0, 0, 1, 1, false, false);
        y.run(1);
        Edge.is("a LINK is told", y.on(0, 5), 1);
        y.back();
        y.link(1, 1, 0, 2, 0);
        y.burst(0, 0, 1, 0, 3, false, false);
        y.run(1);
        Edge.is("another in its place takes two", y.on(0, 5), 2);
        Edge.is("by its own ROUTE", y.of(1, 10), 1);
    }

    private static void butTheTape() {
        Edge.sentence("V: but the tape and the latest FAULT");
        MovingStairs x = new MovingStairs();
        Check.tape(x, "walk 1; walk");
        x.image();
        x.text();
        Edge.is("the tape is read", x.about(9), 0);
        x.back();
        Edge.is("it stays so", x.about(9), 0);
        Edge.is("the FAULT stays", x.fault(0), 4);
        Edge.is("its place too", x.fault(1), 8);
        Check.tape(x, "walk 3;");
        x.back();
        Edge.is("what came behind stays", x.about(9), 7);
        Edge.is("and is a TEXT", x.text(), 0);
        Edge.is("without a FAULT", x.fault(0), 0);
        x.back();
        Edge.is("that stays as well", x.fault(0), 0);
        Edge.is("and the place", x.fault(1), -1);
    }

    private static void textsBehindTheImage() {
        Edge.sentence("V: TEXTS told behind it are gone behind going back.");
        MovingStairs x = Edge.halls(9, 9, 9);
        Check.law(x, "shut hall = 0;");
        x.image();
        Check.law(x, "shut hall = 1;");
        Check.tape(x, "shut hall = 2;");
        x.text();
        Edge.is("three", x.about(4), 3);
        Edge.is("by the second", x.about(5), 1);
        x.back();
        Edge.is("one", x.about(4), 1);
        Edge.is("by the first", x.about(5), 0);
        Edge.is("the second is none", x.by(1), false);
        Edge.is("nor the third", x.by(2), false);
        Check.law(x, "shut hall = 2;");
        Edge.is("another is the second", x.about(5), 1);
        x.run(1);
        Edge.is("by it 2 is SHUT", x.of(0, 2) * 100 + x.of(1, 2) * 10 + x.of(2, 2), 1);
        x.back();
        x.run(1);
        Edge.is("by the first 0 is SHUT", x.of(0, 2) * 100 + x.of(1, 2) * 10 + x.of(2, 2), 100);
        x.by(-1);
        x.image();
        x.by(0);
        x.back();
        Edge.is("no TEXT was THE TEXT", x.about(5), -1);
        for (int i = 1; i < 4; i++) {
            Edge.is("there is room up to four", x.text(), i);
        }
        Edge.is("and no more", x.text(), -1);
        x.back();
        Edge.is("then again", x.text(), 1);
    }
}
