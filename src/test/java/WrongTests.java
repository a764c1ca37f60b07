/** Any arguments in any state: no call fails, and what is refused changes nothing that can be asked. */
final class WrongTests {
    private static final int[] VALUES = {
        Integer.MIN_VALUE, Integer.MIN_VALUE + 1, -1000000, -301, -2, -1, 0, 1, 2, 3, 4, 5, 6, 7, 8, 9, 10,
        11, 20, 25, 30, 40, 41, 60, 80, 81, 99, 100, 200, 299, 300, 301, 999, 1000, 9999, 10000, 99999,
        100000, 1 << 30, Integer.MAX_VALUE - 1, Integer.MAX_VALUE,
    };

    private WrongTests() {
    }

    static void runAll() {
        for (int seed = 1; seed <= 300; seed++) {
            anyCalls(new Chance(seed * 31L));
        }
    }

    /** Behind the 512th call answers are free, but none may fail. */
    private static void anyCalls(Chance chance) {
        MovingStairs x = new MovingStairs();
        if (chance.in(2)) {
            for (int i = 0; i < 6; i++) {
                x.hall(chance.from(1, 99));
            }
        }
        for (int i = 0; i < 130; i++) {
            int before = x.about(0);
            boolean forward = call(x, chance);
            Check.is("only a run goes on", forward || x.about(0) <= before, true);
        }
        int more = chance.in(3) ? 400 : 0;
        for (int i = 0; i < more; i++) {
            call(x, chance);
        }
    }

    private static int any(Chance chance) {
        return chance.in(3) ? VALUES[chance.below(VALUES.length)] : chance.from(0, 6);
    }

    /** Whether it was a call that may go on in time. */
    private static boolean call(MovingStairs x, Chance c) {
        boolean yes = c.in(2);
        switch (c.below(36)) {
            case 0: x.hall(any(c)); break;
            case 1: x.bar(any(c), any(c)); break;
            case 2: case 3: x.link(any(c), any(c), any(c), any(c), any(c)); break;
            case 4: x.turn(any(c), any(c)); break;
            case 5: x.mode(any(c), any(c)); break;
            case 6: x.reset(any(c)); break;
            case 7: case 8: x.burst(any(c), any(c), any(c), any(c), any(c), yes, c.in(2)); break;
            case 9: x.feed(any(c), any(c), any(c), any(c), any(c)); break;
            case 10: x.end(any(c)); break;
            case 11: Check.tape(x, ModelTests.law(c)); break;
            case 12: x.text(); break;
            case 13: x.fault(any(c)); break;
            case 14: x.by(any(c)); break;
            case 15: x.run(any(c)); return true;
            case 16: x.of(any(c), any(c)); break;
            case 17: x.on(any(c), any(c)); break;
            case 18: x.step(any(c), any(c), any(c)); break;
            case 19: x.route(any(c), any(c), yes); break;
            case 20: x.all(any(c)); break;
            case 21: x.ways(any(c), any(c), any(c)); break;
            case 22: x.least(any(c), any(c), any(c)); break;
            case 23: x.felt(any(c), any(c)); break;
            case 24: x.standing(any(c), any(c)); break;
            case 25: x.alone(any(c), any(c), any(c), any(c)); break;
            case 26: x.crossing(any(c), any(c)); break;
            case 27: x.day(yes, any(c), any(c)); x.effect(); break;
            case 28: x.mend(any(c), any(c), any(c), any(c)); break;
            case 29: x.order(any(c)); break;
            case 30: x.load(any(c)); break;
            case 31: x.unload(); break;
            case 32: x.taken(any(c), yes); break;
            case 33: x.image(); break;
            case 34: x.back(); return true;
            default: x.about(any(c)); break;
        }
        return false;
    }
}
