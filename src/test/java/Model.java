import java.util.ArrayList;
import java.util.List;

/**
 * The document told a second time, with people as objects and in the slowest form, to compare with.
 * It takes only calls that are in order; wrong ones are tested elsewhere.
 */
final class Model {
    static final class Person {
        final int goal;
        final boolean wheels;
        final boolean walks;

        Person(int goal, boolean wheels, boolean walks) {
            this.goal = goal;
            this.wheels = wheels;
            this.walks = walks;
        }
    }

    static final class Hall {
        int room;
        int bar = 999;
        int shutSeconds;
        int over = -1;
        boolean shut;
        List<Person> in = new ArrayList<>();
        List<Person> outside = new ArrayList<>();
    }

    static final class Link {
        int kind;
        int low;
        int high;
        int size;
        int cycle;
        int way = 1;
        int wanted = 1;
        boolean going = true;
        boolean tripped;
        int mode;
        int taken;
        int off;
        Person[][] steps;

        int load() {
            int load = 0;
            for (Person[] side : steps) {
                for (Person p : side) {
                    load += p == null ? 0 : 1;
                }
            }
            return load;
        }

        int foot() {
            return way == 1 ? low : high;
        }

        int head() {
            return way == 1 ? high : low;
        }

        boolean usable() {
            return going && !tripped && wanted == way;
        }

        int cost() {
            return kind == 0 ? size : kind == 1 ? 2 * size : cycle;
        }
    }

    static final class Burst {
        int second;
        int every;
        int hall;
        int goal;
        int n;
        boolean wheels;
        boolean street;
    }

    int second;
    int arrived;
    long waited;
    int goneBack;
    int trips;
    List<Hall> halls = new ArrayList<>();
    List<Link> links = new ArrayList<>();
    List<Burst> bursts = new ArrayList<>();
    /** The source of THE TEXT, without faults; empty for none. */
    String law = "";
    int[][][] routes;

    Model copy() {
        Model m = new Model();
        m.second = second;
        m.arrived = arrived;
        m.waited = waited;
        m.goneBack = goneBack;
        m.trips = trips;
        m.law = law;
        m.bursts.addAll(bursts);
        for (Hall h : halls) {
            Hall c = new Hall();
            c.room = h.room;
            c.bar = h.bar;
            c.shutSeconds = h.shutSeconds;
            c.over = h.over;
            c.in.addAll(h.in);
            c.outside.addAll(h.outside);
            m.halls.add(c);
        }
        for (Link l : links) {
            Link c = new Link();
            c.kind = l.kind;
            c.low = l.low;
            c.high = l.high;
            c.size = l.size;
            c.cycle = l.cycle;
            c.way = l.way;
            c.wanted = l.wanted;
            c.going = l.going;
            c.tripped = l.tripped;
            c.mode = l.mode;
            c.taken = l.taken;
            c.off = l.off;
            c.steps = new Person[][] {l.steps[0].clone(), l.steps[1].clone()};
            m.links.add(c);
        }
        return m;
    }

    void hall(int room) {
        Hall h = new Hall();
        h.room = room;
        halls.add(h);
    }

    void link(int kind, int low, int high, int size, int cycle) {
        Link l = new Link();
        l.kind = kind;
        l.low = low;
        l.high = high;
        l.size = size;
        l.cycle = cycle;
        l.steps = new Person[2][kind == 2 ? 0 : size];
        links.add(l);
    }

    void burst(int second, int every, int hall, int goal, int n, boolean wheels, boolean street) {
        Burst b = new Burst();
        b.second = second;
        b.every = every;
        b.hall = hall;
        b.goal = goal;
        b.n = n;
        b.wheels = wheels;
        b.street = street;
        bursts.add(b);
    }

    void turn(int link, int way) {
        Link l = links.get(link);
        if (way == 0) {
            l.going = false;
            return;
        }
        l.wanted = way;
        if (l.load() == 0) {
            l.way = way;
            l.going = true;
        } else if (l.way == way) {
            l.going = true;
        }
    }

    /** Shortest ways by going on from hall to hall, every chain of links tried. */
    private int shortest(int from, int goal, boolean wheels, int left) {
        if (from == goal) {
            return 0;
        }
        int best = 1000000;
        for (int i = 0; left > 0 && i < links.size(); i++) {
            int next = next(i, from, wheels);
            if (next >= 0) {
                best = Math.min(best, links.get(i).cost() + shortest(next, goal, wheels, left - 1));
            }
        }
        return best;
    }

    private int next(int link, int from, boolean wheels) {
        Link l = links.get(link);
        if (wheels != (l.kind == 2)) {
            return -1;
        }
        if (l.kind == 2) {
            return l.low == from ? l.high : l.high == from ? l.low : -1;
        }
        return l.usable() && l.foot() == from ? l.head() : -1;
    }

    int route(int hall, int goal, boolean wheels) {
        if (hall == goal) {
            return -1;
        }
        int best = -1;
        int fewest = 1000000;
        for (int i = 0; i < links.size(); i++) {
            int next = next(i, hall, wheels);
            if (next >= 0) {
                int seconds = links.get(i).cost() + shortest(next, goal, wheels, halls.size());
                if (seconds < fewest) {
                    fewest = seconds;
                    best = i;
                }
            }
        }
        return best;
    }

    private boolean so(String clause, int hall) {
        Hall h = halls.get(hall);
        ModelText text = new ModelText(law);
        text.set("second", second);
        text.set("hall", hall);
        text.set("count", h.in.size());
        text.set("room", h.room);
        text.set("outside", h.outside.size());
        return text.anySo(clause);
    }

    private void come(Person p, int hall) {
        if (p.goal == hall) {
            arrived++;
        } else {
            halls.get(hall).in.add(p);
        }
    }

    void run(int n) {
        for (int i = 0; i < n; i++) {
            pass();
        }
    }

    void pass() {
        for (Burst b : bursts) {
            boolean due = b.every == 0 ? second == b.second
                : second >= b.second && (second - b.second) % b.every == 0;
            if (!due) {
                continue;
            }
            boolean back = b.street && so("back", b.hall);
            for (int i = 0; i < b.n; i++) {
                Person p = new Person(b.goal, b.wheels, false);
                if (!b.street) {
                    come(p, b.hall);
                } else if (back) {
                    goneBack++;
                } else {
                    halls.get(b.hall).outside.add(p);
                }
            }
        }
        for (int i = 0; i < halls.size(); i++) {
            Hall h = halls.get(i);
            h.shut = h.in.size() >= h.bar || so("shut", i);
            while (!h.shut && !h.outside.isEmpty() && h.in.size() < h.room) {
                Person first = null;
                for (Person p : h.outside) {
                    if (first == null || p.goal < first.goal
                        || p.goal == first.goal && !p.wheels && first.wheels) {
                        first = p;
                    }
                }
                h.outside.remove(first);
                come(first, i);
            }
        }
        for (Link l : links) {
            if (l.kind != 2 && l.load() == 0) {
                l.way = l.wanted;
            }
        }
        findRoutes();
        for (int i = 0; i < links.size(); i++) {
            Link l = links.get(i);
            if (l.kind == 2) {
                if (second % l.cycle == 0) {
                    lift(i, l.low, l.high);
                    lift(i, l.high, l.low);
                }
                continue;
            }
            int w = walk(l);
            if (l.kind == 0) {
                stair(l);
            } else {
                fixed(l);
            }
            take(i, w);
        }
        for (Hall h : halls) {
            waited = Math.min(1000000000L, waited + h.in.size() + h.outside.size());
            h.shutSeconds += h.shut ? 1 : 0;
            if (h.over < 0 && h.in.size() > h.room) {
                h.over = second;
            }
        }
        second++;
    }

    private void findRoutes() {
        routes = new int[2][halls.size()][halls.size()];
        for (int from = 0; from < halls.size(); from++) {
            for (int to = 0; to < halls.size(); to++) {
                routes[0][from][to] = route(from, to, false);
                routes[1][from][to] = route(from, to, true);
            }
        }
    }

    private int walk(Link l) {
        ModelText text = new ModelText(law);
        text.set("second", second);
        text.set("steps", l.size);
        text.set("load", l.load());
        text.set("wait", halls.get(l.foot()).in.size());
        return text.walk();
    }

    /** One of the goal of which most wait for that link; null if nobody does. */
    private Person most(int link, int hall, boolean wheels) {
        int bestCount = 0;
        Person best = null;
        for (int goal = 0; goal < halls.size(); goal++) {
            int count = 0;
            Person any = null;
            for (Person p : halls.get(hall).in) {
                if (p.goal == goal && p.wheels == wheels && routes[wheels ? 1 : 0][hall][goal] == link) {
                    count++;
                    any = p;
                }
            }
            if (count > bestCount) {
                bestCount = count;
                best = any;
            }
        }
        return best;
    }

    private boolean full(int hall, Person p) {
        return p.goal != hall && halls.get(hall).in.size() >= halls.get(hall).room;
    }

    private void lift(int link, int from, int to) {
        Link l = links.get(link);
        for (int i = 0; i < l.size; i++) {
            Person p = most(link, from, true);
            if (p == null || full(to, p)) {
                break;
            }
            halls.get(from).in.remove(p);
            come(p, to);
            l.taken++;
            l.off++;
        }
    }

    private void stair(Link l) {
        if (!l.going || l.tripped) {
            return;
        }
        for (Person[] side : l.steps) {
            for (int at = l.size - 1; at >= 0; at--) {
                Person p = side[at];
                if (p == null) {
                    continue;
                }
                int where = at;
                int moves = p.walks ? 2 : 1;
                for (int move = 0; move < moves && where < l.size; move++) {
                    if (where == l.size - 1) {
                        if (full(l.head(), p)) {
                            l.tripped = true;
                            trips++;
                            return;
                        }
                        side[where] = null;
                        l.off++;
                        come(p, l.head());
                        where++;
                    } else if (move == 0 || side[where + 1] == null) {
                        side[where] = null;
                        where++;
                        side[where] = p;
                    }
                }
            }
        }
    }

    private void fixed(Link l) {
        if (!l.going || second % 2 != 0) {
            return;
        }
        for (Person[] side : l.steps) {
            for (int at = l.size - 1; at >= 0; at--) {
                Person p = side[at];
                if (p == null) {
                    continue;
                }
                if (at < l.size - 1) {
                    if (side[at + 1] == null) {
                        side[at + 1] = p;
                        side[at] = null;
                    }
                } else if (!full(l.head(), p)) {
                    side[at] = null;
                    l.off++;
                    come(p, l.head());
                }
            }
        }
    }

    private void take(int link, int w) {
        Link l = links.get(link);
        if (l.tripped || l.wanted != l.way || !l.going) {
            return;
        }
        for (int i = 0; i < 2; i++) {
            Person p = most(link, l.foot(), false);
            if (p == null) {
                return;
            }
            boolean walks = l.kind == 0 && l.mode == 0 && w * (l.taken + 1) / 10 > w * l.taken / 10;
            int side = walks ? 1 : 0;
            if (l.steps[side][0] != null && (l.kind == 1 || l.mode == 1)) {
                side = 1;
            }
            if (l.steps[side][0] != null) {
                return;
            }
            l.steps[side][0] = new Person(p.goal, p.wheels, walks);
            halls.get(l.foot()).in.remove(p);
            l.taken++;
        }
    }

    int ways(int mask, int n, int what) {
        int best = -1;
        long least = 0;
        for (int up = 0; up <= mask; up++) {
            if ((up & ~mask) != 0) {
                continue;
            }
            Model m = copy();
            for (int i = 0; i < links.size(); i++) {
                if ((mask >> i & 1) == 1) {
                    m.turn(i, (up >> i & 1) == 1 ? 1 : 2);
                }
            }
            m.run(n);
            if (best < 0 || m.waited - waited < least) {
                best = up;
                least = m.waited - waited;
            }
        }
        return what == 0 ? best : (int) least;
    }

    int least(int hall, int n, int what) {
        for (int bar = 60; bar >= 0; bar--) {
            Model m = copy();
            m.halls.get(hall).bar = bar;
            boolean good = true;
            for (int i = 0; i < n && good; i++) {
                m.pass();
                for (Hall h : m.halls) {
                    good &= h.in.size() <= h.room;
                }
                good &= m.trips == trips;
            }
            if (good) {
                return what == 0 ? bar : m.halls.get(hall).shutSeconds - halls.get(hall).shutSeconds;
            }
        }
        return -1;
    }

    int felt(int link, int n) {
        Model m = copy();
        int foot = links.get(link).foot();
        m.turn(link, 0);
        for (int i = 0; i < n; i++) {
            m.pass();
            if (m.halls.get(foot).in.size() > m.halls.get(foot).room) {
                return i;
            }
        }
        return -1;
    }

    int standing(int link, int n) {
        int[] off = new int[2];
        for (int mode = 0; mode < 2; mode++) {
            Model m = copy();
            m.links.get(link).mode = mode;
            m.run(n);
            off[mode] = m.links.get(link).off;
        }
        return off[1] - off[0];
    }

    /** Without halls: who stands or walks on two rows of steps, and a crowd without end. */
    static int alone(int length, int w, int mode, int t) {
        int[][] sides = new int[2][length];
        int off = 0;
        int c = 0;
        for (int second = 0; second < t; second++) {
            for (int[] side : sides) {
                for (int at = length - 1; at >= 0; at--) {
                    int who = side[at];
                    side[at] = 0;
                    int to = at + 1;
                    if (who == 2 && (to + 1 >= length || side[to + 1] == 0)) {
                        to++;
                    }
                    if (who != 0 && to >= length) {
                        off++;
                    } else if (who != 0) {
                        side[to] = who;
                    }
                }
            }
            for (int i = 0; i < 2; i++) {
                boolean walks = mode == 0 && w * (c + 1) / 10 > w * c / 10;
                int side = walks ? 1 : 0;
                if (mode == 1 && sides[0][0] != 0) {
                    side = 1;
                }
                if (sides[side][0] != 0) {
                    break;
                }
                sides[side][0] = walks ? 2 : 1;
                c++;
            }
        }
        return off;
    }

    static int crossing(int length, int t) {
        for (int w = 0; w <= 10; w++) {
            if (alone(length, w, 0, t) >= alone(length, 0, 1, t)) {
                return w;
            }
        }
        return -1;
    }
}
