/** One run by chance, told to the program and to the model alike. */
final class ModelRun {
    private final int seed;
    private final Chance chance;
    private final Retold x = new Retold();
    private Model m = new Model();
    private Model kept = new Model();

    ModelRun(int seed) {
        this.seed = seed;
        this.chance = new Chance(seed);
    }

    void compare() {
        int halls = chance.from(2, 6);
        for (int i = 0; i < halls; i++) {
            int room = chance.in(3) ? chance.from(1, 5) : chance.from(1, 60);
            x.hall(room);
            m.hall(room);
        }
        int links = chance.from(1, 10);
        for (int i = 0; i < links; i++) {
            tellLink();
        }
        int bursts = chance.from(1, 8);
        for (int i = 0; i < bursts; i++) {
            tellBurst();
        }
        for (int i = 0; i < 40; i++) {
            act();
            compareAll(i);
        }
    }

    private void tellLink() {
        if (m.links.size() >= 10) {
            return;
        }
        int kind = chance.in(2) ? 0 : chance.from(0, 2);
        int low = chance.below(m.halls.size());
        int high = (low + chance.from(1, m.halls.size() - 1)) % m.halls.size();
        int size = kind == 2 ? chance.from(1, 5) : chance.in(4) ? chance.from(2, 40) : chance.from(2, 6);
        int cycle = chance.from(2, 9);
        x.link(kind, low, high, size, cycle);
        m.link(kind, low, high, size, cycle);
    }

    private void tellBurst() {
        if (m.bursts.size() >= 30) {
            return;
        }
        int second = m.second + chance.from(0, 20);
        int every = chance.in(3) ? 0 : chance.from(1, 30);
        int hall = chance.below(m.halls.size());
        int goal = (hall + chance.from(1, m.halls.size() - 1)) % m.halls.size();
        int n = chance.in(10) ? chance.from(1, 60) : chance.from(1, 9);
        boolean wheels = chance.in(4);
        boolean street = chance.in(2);
        x.burst(second, every, hall, goal, n, wheels, street);
        m.burst(second, every, hall, goal, n, wheels, street);
    }

    private void act() {
        int link = chance.below(m.links.size());
        int hall = chance.below(m.halls.size());
        int n = chance.from(1, 12);
        switch (chance.below(16)) {
            case 0: turn(link); break;
            case 1: mode(link); break;
            case 2: reset(link); break;
            case 3: bar(hall); break;
            case 4: law(); break;
            case 5: tellBurst(); break;
            case 6: image(); break;
            case 7: ways(n); break;
            case 8: least(hall, n); break;
            case 9: felt(link, n * 3); break;
            case 10: standing(link, n * 3); break;
            default: run(chance.in(8) ? 40 : n); break;
        }
    }

    private void is(String what, long got, long due) {
        Check.is("seed " + seed + ": " + what, got, due);
    }

    private void turn(int link) {
        int way = chance.below(3);
        boolean told = x.turn(link, way);
        is("turn", told ? 1 : 0, m.links.get(link).kind != 2 ? 1 : 0);
        if (told) {
            m.turn(link, way);
        }
    }

    private void mode(int link) {
        int mode = chance.below(2);
        if (x.mode(link, mode)) {
            m.links.get(link).mode = mode;
        }
    }

    private void reset(int link) {
        is("reset", x.reset(link) ? 1 : 0, m.links.get(link).tripped ? 1 : 0);
        m.links.get(link).tripped = false;
    }

    private void bar(int hall) {
        int bar = chance.from(0, 40);
        x.bar(hall, bar);
        m.halls.get(hall).bar = bar;
    }

    private void law() {
        String law = ModelTests.law(chance);
        if (law.length() <= 300 && x.about(4) < 4) {
            x.law(law);
            m.law = law;
        } else {
            x.lawless();
            m.law = "";
        }
    }

    private void image() {
        if (chance.in(2)) {
            is("image", x.image(), m.second);
            kept = m.copy();
        } else if (kept.links.size() > 0) {
            is("back", x.back(), kept.second);
            m = kept.copy();
        }
    }

    private void ways(int n) {
        int mask = 0;
        for (int i = 0; i < m.links.size(); i++) {
            boolean more = Integer.bitCount(mask) < 3 && chance.in(2);
            mask |= more && m.links.get(i).kind != 2 ? 1 << i : 0;
        }
        if (mask != 0) {
            is("ways", x.ways(mask, n, 0), m.ways(mask, n, 0));
            is("ways' waiting", x.ways(mask, n, 1), m.ways(mask, n, 1));
        }
    }

    private void least(int hall, int n) {
        is("least", x.least(hall, n, 0), m.least(hall, n, 0));
        is("least's seconds", x.least(hall, n, 1), m.least(hall, n, 1));
    }

    private void felt(int link, int n) {
        is("felt", x.felt(link, n), m.links.get(link).kind == 0 ? m.felt(link, n) : -1);
    }

    private void standing(int link, int n) {
        is("standing", x.standing(link, n), m.links.get(link).kind == 0 ? m.standing(link, n) : -1000000);
    }

    private void run(int n) {
        m.run(n);
        is("run", x.run(n), m.second);
    }

    private void compareAll(int turn) {
        String at = " behind " + turn;
        is("arrived" + at, x.all(0), m.arrived);
        is("waited" + at, x.all(1), m.waited);
        is("back" + at, x.all(2), m.goneBack);
        is("trips" + at, x.all(3), m.trips);
        for (int i = 0; i < m.halls.size(); i++) {
            compareHall(i, at);
        }
        for (int i = 0; i < m.links.size(); i++) {
            compareLink(i, at);
        }
        for (int from = 0; from < m.halls.size(); from++) {
            int to = chance.below(m.halls.size());
            boolean wheels = chance.in(2);
            is("route" + at, x.route(from, to, wheels), m.route(from, to, wheels));
        }
    }

    private void compareHall(int hall, String at) {
        Model.Hall h = m.halls.get(hall);
        String name = "hall " + hall + at + ": ";
        is(name + "in it", x.of(hall, 0), h.in.size());
        is(name + "outside", x.of(hall, 1), h.outside.size());
        is(name + "shut", x.of(hall, 2), h.shutSeconds);
        is(name + "over", x.of(hall, 3), h.over);
        is(name + "bar", x.of(hall, 4), h.bar);
        int[] due = new int[12];
        for (Model.Person p : h.in) {
            due[p.goal + (p.wheels ? 6 : 0)]++;
        }
        for (int goal = 0; goal < m.halls.size(); goal++) {
            is(name + "able to " + goal, x.of(hall, 10 + goal), due[goal]);
            is(name + "wheels to " + goal, x.of(hall, 20 + goal), due[6 + goal]);
        }
    }

    private void compareLink(int link, String at) {
        Model.Link l = m.links.get(link);
        String name = "link " + link + at + ": ";
        int way = l.kind == 2 ? 0 : l.way;
        int wanted = l.kind == 2 ? 0 : l.wanted;
        int[] due = {l.load(), way, l.going ? 1 : 0, l.tripped ? 1 : 0, wanted, l.taken, l.off, l.mode};
        for (int what = 0; what < due.length; what++) {
            is(name + what, x.on(link, what), due[what]);
        }
        for (int side = 0; side < 2; side++) {
            for (int step = 0; step < l.steps[side].length; step++) {
                Model.Person p = l.steps[side][step];
                int who = p == null ? -1 : p.walks ? p.goal + 10 : p.goal;
                is(name + "step " + side + ", " + step, x.step(link, side, step), who);
            }
        }
    }
}
