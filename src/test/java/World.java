/** A station in which something of everything has been told and goes on, and what can be asked of it. */
final class World {
    static final int HALLS = 3;
    static final int LINKS = 4;
    static final int TAPE = 7;

    private World() {
    }

    /** Halls 0 to 2; links 0 stair, 1 fixed, 2 lift, 3 stair that goes down; SECOND 6, THE IMAGE at 2. */
    static MovingStairs busy() {
        MovingStairs x = Edge.halls(9, 5, 99);
        x.link(0, 0, 1, 3, 0);
        x.link(1, 1, 2, 2, 0);
        x.link(2, 0, 2, 2, 3);
        x.link(0, 0, 2, 4, 0);
        x.turn(3, 2);
        x.burst(0, 3, 0, 1, 3, false, false);
        x.burst(1, 2, 2, 0, 2, false, true);
        x.burst(0, 4, 0, 2, 3, true, true);
        x.burst(1, 3, 1, 2, 2, false, false);
        Check.law(x, "walk 5; back outside > 8; shut count > 7;");
        Check.tape(x, "walk 1; foo");
        x.text();
        Check.tape(x, "walk 2;");
        x.day(true, 1, 50);
        x.day(false, 1, 30);
        x.mend(10, 1, 12, 2);
        x.mend(10, 2, 12, 3);
        x.load(3);
        x.load(4);
        x.run(2);
        x.image();
        x.run(4);
        x.load(4);
        return x;
    }

    /** All that both answer is the same now and some seconds later, and behind going back. */
    static void alike(MovingStairs x, MovingStairs y) {
        alikeNow("now", x, y);
        x.run(5);
        y.run(5);
        alikeNow("five seconds later", x, y);
        x.back();
        y.back();
        for (int what = 0; what < 10; what++) {
            Edge.is("about " + what + " behind going back", x.about(what), y.about(what));
        }
    }

    private static void alikeNow(String when, MovingStairs x, MovingStairs y) {
        for (int what = 0; what < 10; what++) {
            Edge.is("about " + what + " " + when, x.about(what), y.about(what));
        }
        for (int what = 0; what < 4; what++) {
            Edge.is("all " + what + " " + when, x.all(what), y.all(what));
        }
        for (int hall = 0; hall < HALLS; hall++) {
            for (int what = 0; what < 23; what++) {
                Edge.is("of " + hall + ", " + what + " " + when, x.of(hall, what), y.of(hall, what));
            }
        }
        for (int link = 0; link < LINKS; link++) {
            for (int what = 0; what < 8; what++) {
                Edge.is("on " + link + ", " + what + " " + when, x.on(link, what), y.on(link, what));
            }
            for (int place = 0; place < 8; place++) {
                Edge.is("step " + place + " of " + link + " " + when,
                    x.step(link, place / 4, place % 4), y.step(link, place / 4, place % 4));
            }
        }
        Edge.is("fault " + when, x.fault(0), y.fault(0));
        Edge.is("place " + when, x.fault(1), y.fault(1));
        Edge.is("effect " + when, x.effect(), y.effect());
        for (int i = -1; i < 2; i++) {
            Edge.is("order " + i + " " + when, x.order(i), y.order(i));
        }
        Edge.is("least taken " + when, x.taken(2, false), y.taken(2, false));
        Edge.is("most taken " + when, x.taken(2, true), y.taken(2, true));
    }
}
