import java.util.Arrays;

/** A deep station whose stairs move: its state is told call by call, README.md says how to use it. */
public final class MovingStairs {
    public static final int NONE = -1;

    private static final int MOST_HALLS = 6;
    private static final int MOST_LINKS = 10;
    private static final int MOST_BURSTS = 30;
    private static final int MOST_TEXTS = 4;
    private static final int MOST_STEPS = 40;
    private static final int LONGEST_RUN = 300;
    private static final int LAST_SECOND = 99999;
    private static final int MOST_WAITED = 1000000000;
    private static final int MOST_TURNED = 5;
    private static final int HIGHEST_BAR_TRIED = 60;

    private static final int STAIR = 0;
    private static final int FIXED = 1;
    private static final int LIFT = 2;
    private static final int UP = 1;
    private static final int DOWN = 2;
    private static final int ABLE = 0;
    private static final int WHEELS = 1;
    private static final int WALKING = 10;

    private final Station now = new Station();
    private final Station kept = new Station();
    private final Station tried = new Station();
    private final Mover mover = new Mover();
    private final Reader reader = new Reader();
    private final Text noText = new Text();
    private final Text[] texts = new Text[MOST_TEXTS];

    public MovingStairs() {
        for (int i = 0; i < texts.length; i++) {
            texts[i] = new Text();
        }
    }

    public int hall(int room) {
        if (!within(room, 1, 999) || !within(now.hallCount, 0, MOST_HALLS - 1)) {
            return NONE;
        }
        now.halls[now.hallCount].build(room);
        now.hallCount++;
        return now.hallCount - 1;
    }

    public boolean bar(int hall, int v) {
        if (!now.hasHall(hall) || !within(v, 0, 999)) {
            return false;
        }
        now.halls[hall].bar = v;
        return true;
    }

    public int link(int kind, int low, int high, int size, int cycle) {
        if (!now.hasHall(low) || !now.hasHall(high) || low == high) {
            return NONE;
        }
        boolean stepped = (kind == STAIR || kind == FIXED) && within(size, 2, MOST_STEPS);
        boolean lifting = kind == LIFT && within(size, 1, 20) && within(cycle, 2, 99);
        if (!stepped && !lifting || !within(now.linkCount, 0, MOST_LINKS - 1)) {
            return NONE;
        }
        now.links[now.linkCount].build(kind, low, high, size, cycle);
        now.linkCount++;
        return now.linkCount - 1;
    }

    public boolean turn(int link, int way) {
        if (!now.hasStepped(link) || !within(way, 0, DOWN)) {
            return false;
        }
        now.links[link].turnTo(way);
        return true;
    }

    public boolean mode(int link, int v) {
        if (!now.hasStair(link) || !within(v, 0, 1)) {
            return false;
        }
        now.links[link].mode = v;
        return true;
    }

    public boolean reset(int link) {
        if (!now.hasLink(link) || !now.links[link].tripped) {
            return false;
        }
        now.links[link].tripped = false;
        return true;
    }

    public int burst(int second, int every, int hall, int goal, int n, boolean wheels, boolean street) {
        boolean timed = within(second, 0, LAST_SECOND) && within(every, 0, 999);
        boolean placed = now.hasHall(hall) && now.hasHall(goal) && hall != goal;
        if (!timed || !placed || !within(n, 1, 200) || !within(now.burstCount, 0, MOST_BURSTS - 1)) {
            return NONE;
        }
        Burst told = now.bursts[now.burstCount];
        told.second = second;
        told.every = every;
        told.hall = hall;
        told.goal = goal;
        told.size = n;
        told.kind = wheels ? WHEELS : ABLE;
        told.street = street;
        now.burstCount++;
        return now.burstCount;
    }

    public int feed(int a, int b, int c, int d, int e) {
        if (!reader.hasRoomFor(20)) {
            return NONE;
        }
        reader.append(a);
        reader.append(b);
        reader.append(c);
        reader.append(d);
        reader.append(e);
        return reader.length;
    }

    public int end(int n) {
        if (!within(n, 0, reader.length)) {
            return NONE;
        }
        reader.length = n;
        return n;
    }

    public int text() {
        if (!within(now.textCount, 0, MOST_TEXTS - 1)) {
            return NONE;
        }
        if (!reader.readInto(texts[now.textCount])) {
            return NONE;
        }
        now.textCount++;
        return now.textCount - 1;
    }

    public int fault(int what) {
        if (what == 0) {
            return reader.faultKind;
        }
        return what == 1 ? reader.faultPlace : NONE;
    }

    public boolean by(int text) {
        if (!within(text, NONE, now.textCount - 1)) {
            return false;
        }
        now.textInUse = text;
        return true;
    }

    public int run(int n) {
        if (!mayRun(n)) {
            return NONE;
        }
        Text law = law();
        mover.forgetRoutes();
        for (int i = 0; i < n; i++) {
            mover.passSecond(now, law);
        }
        return now.second;
    }

    public int of(int hall, int what) {
        if (!now.hasHall(hall)) {
            return NONE;
        }
        Hall asked = now.halls[hall];
        if (now.hasHall(what - 10)) {
            return asked.inside[what - 10];
        }
        if (now.hasHall(what - 20)) {
            return asked.inside[MOST_HALLS + what - 20];
        }
        switch (what) {
            case 0: return asked.count;
            case 1: return asked.outsideCount;
            case 2: return asked.shutSeconds;
            case 3: return asked.over;
            case 4: return asked.bar;
            default: return NONE;
        }
    }

    public int on(int link, int what) {
        if (!now.hasLink(link)) {
            return NONE;
        }
        Link asked = now.links[link];
        switch (what) {
            case 0: return asked.count;
            case 1: return asked.way;
            case 2: return asked.going ? 1 : 0;
            case 3: return asked.tripped ? 1 : 0;
            case 4: return asked.wanted;
            case 5: return asked.takenSoFar;
            case 6: return asked.offSoFar;
            case 7: return asked.mode;
            default: return NONE;
        }
    }

    public int step(int link, int side, int step) {
        if (!now.hasStepped(link) || !within(side, 0, 1) || !within(step, 0, now.links[link].size - 1)) {
            return NONE;
        }
        return now.links[link].who(side, step);
    }

    public int route(int hall, int goal, boolean wheels) {
        if (!now.hasHall(hall) || !now.hasHall(goal)) {
            return NONE;
        }
        mover.forgetRoutes();
        mover.routes.find(now);
        return mover.routes.firstLink(wheels ? WHEELS : ABLE, hall, goal);
    }

    public int all(int what) {
        switch (what) {
            case 0: return now.arrived;
            case 1: return now.waited;
            case 2: return now.goneBack;
            case 3: return now.trips;
            default: return NONE;
        }
    }

    public int ways(int links, int n, int what) {
        if (!within(what, 0, 1) || !mayRun(n) || !mayTurn(links)) {
            return NONE;
        }
        int best = 0;
        int least = waitedByWays(links, 0, n);
        int up = 0;
        for (int i = 1; i < 1 << MOST_TURNED; i++) {
            up = (up - links) & links;
            if (up == 0) {
                break;
            }
            int waited = waitedByWays(links, up, n);
            if (waited < least) {
                best = up;
                least = waited;
            }
        }
        return what == 0 ? best : least;
    }

    public int least(int hall, int n, int what) {
        if (!within(what, 0, 1) || !mayRun(n) || !now.hasHall(hall)) {
            return NONE;
        }
        for (int bar = HIGHEST_BAR_TRIED; bar >= 0; bar--) {
            int shut = shutByBar(hall, bar, n);
            if (shut != NONE) {
                return what == 0 ? bar : shut;
            }
        }
        return NONE;
    }

    public int felt(int link, int n) {
        if (!mayRun(n) || !now.hasStair(link)) {
            return NONE;
        }
        Text law = beginTrial();
        int foot = tried.links[link].foot();
        tried.links[link].turnTo(0);
        for (int i = 0; i < n; i++) {
            mover.passSecond(tried, law);
            if (tried.hasHall(foot) && tried.halls[foot].isOver()) {
                return i;
            }
        }
        return NONE;
    }

    public int standing(int link, int n) {
        if (!mayRun(n) || !now.hasStair(link)) {
            return -1000000;
        }
        return offByMode(link, 1, n) - offByMode(link, 0, n);
    }

    public int alone(int length, int w, int mode, int t) {
        if (!within(w, 0, 10) || !within(mode, 0, 1) || !mayStandAlone(length, t)) {
            return NONE;
        }
        return carriedAlone(length, w, mode, t);
    }

    public int crossing(int length, int t) {
        if (!mayStandAlone(length, t)) {
            return NONE;
        }
        int standing = carriedAlone(length, 0, 1, t);
        for (int w = 0; w <= 10; w++) {
            if (carriedAlone(length, w, 0, t) >= standing) {
                return w;
            }
        }
        return NONE;
    }

    public int day(boolean standing, int kind, int count) {
        if (!within(kind, 0, Days.CLASSES - 1) || !within(count, 0, 9999)) {
            return NONE;
        }
        return now.days.tell(standing, kind, count);
    }

    public int effect() {
        return now.days.meanEffect();
    }

    public int mend(int worn, int more, int limit, int months) {
        boolean wearing = within(worn, 0, 999) && within(more, 0, 99) && within(limit, 0, 999);
        if (!wearing || !within(months, 1, 9)) {
            return NONE;
        }
        return now.mends.tell(worn, more, limit, months);
    }

    public int order(int i) {
        if (now.mends.count <= 0 || !within(i, NONE, now.mends.count - 1)) {
            return NONE;
        }
        now.mends.weigh();
        return i == NONE ? now.mends.fewest[0] : now.mends.inTurn(i);
    }

    public int load(int v) {
        return within(v, 0, 80) ? now.loads.tell(v) : NONE;
    }

    public int unload() {
        int had = now.loads.count;
        now.loads.count = 0;
        return had;
    }

    public int taken(int length, boolean most) {
        return within(length, 2, MOST_STEPS) ? now.loads.steppedOn(length, most) : NONE;
    }

    public int image() {
        kept.copyAll(now);
        return kept.second;
    }

    public int back() {
        now.copyAll(kept);
        return now.second;
    }

    public int about(int what) {
        switch (what) {
            case 0: return now.second;
            case 1: return now.hallCount;
            case 2: return now.linkCount;
            case 3: return now.burstCount;
            case 4: return now.textCount;
            case 5: return now.textInUse;
            case 6: return now.days.count;
            case 7: return now.mends.count;
            case 8: return now.loads.count;
            case 9: return reader.length;
            default: return NONE;
        }
    }

    private static boolean within(int v, int low, int high) {
        return v >= low && v <= high;
    }

    private boolean mayRun(int n) {
        return within(n, 1, LONGEST_RUN) && now.second + n <= LAST_SECOND;
    }

    private static boolean mayStandAlone(int length, int t) {
        return within(length, 2, MOST_STEPS) && within(t, 1, 999);
    }

    private boolean mayTurn(int links) {
        int many = Integer.bitCount(links);
        if (many < 1 || many > MOST_TURNED || links >> MOST_LINKS != 0) {
            return false;
        }
        for (int i = 0; i < MOST_LINKS; i++) {
            if ((links >> i & 1) == 1 && !now.hasStepped(i)) {
                return false;
            }
        }
        return true;
    }

    private Text law() {
        return within(now.textInUse, 0, MOST_TEXTS - 1) ? texts[now.textInUse] : noText;
    }

    private Text beginTrial() {
        tried.copyMoving(now);
        mover.forgetRoutes();
        return law();
    }

    private int waitedByWays(int links, int up, int n) {
        Text law = beginTrial();
        for (int i = 0; i < MOST_LINKS; i++) {
            if ((links >> i & 1) == 1) {
                tried.links[i].turnTo((up >> i & 1) == 1 ? UP : DOWN);
            }
        }
        for (int i = 0; i < n; i++) {
            mover.passSecond(tried, law);
        }
        return tried.waited - now.waited;
    }

    /** For how many seconds the hall is shut by that bar; NONE if a hall is over or a stair trips. */
    private int shutByBar(int hall, int bar, int n) {
        if (!within(hall, 0, MOST_HALLS - 1)) {
            return NONE;
        }
        Text law = beginTrial();
        tried.halls[hall].bar = bar;
        for (int i = 0; i < n; i++) {
            mover.passSecond(tried, law);
            if (tried.trips != now.trips || tried.anyHallOver()) {
                return NONE;
            }
        }
        return tried.halls[hall].shutSeconds - now.halls[hall].shutSeconds;
    }

    private int offByMode(int link, int mode, int n) {
        if (!within(link, 0, MOST_LINKS - 1)) {
            return 0;
        }
        Text law = beginTrial();
        tried.links[link].mode = mode;
        for (int i = 0; i < n; i++) {
            mover.passSecond(tried, law);
        }
        return tried.links[link].offSoFar - now.links[link].offSoFar;
    }

    /** A crowd of two a second is endless for a stair, and the goal always has room. */
    private int carriedAlone(int length, int w, int mode, int t) {
        tried.buildAlone(length, mode, 2 * t);
        mover.forgetRoutes();
        mover.routes.find(tried);
        Link stair = tried.links[0];
        for (int i = 0; i < t; i++) {
            mover.moveStair(tried, stair);
            mover.takeUpToTwo(tried, 0, w);
        }
        return stair.offSoFar;
    }

    /** All that an image keeps. */
    private static final class Station {
        final Hall[] halls = new Hall[MOST_HALLS];
        final Link[] links = new Link[MOST_LINKS];
        final Burst[] bursts = new Burst[MOST_BURSTS];
        final Days days = new Days();
        final Mends mends = new Mends();
        final Loads loads = new Loads();
        int second;
        int hallCount;
        int linkCount;
        int burstCount;
        int textCount;
        int textInUse = NONE;
        int arrived;
        int waited;
        int goneBack;
        int trips;

        Station() {
            for (int i = 0; i < halls.length; i++) {
                halls[i] = new Hall();
            }
            for (int i = 0; i < links.length; i++) {
                links[i] = new Link();
            }
            for (int i = 0; i < bursts.length; i++) {
                bursts[i] = new Burst();
            }
        }

        boolean hasHall(int hall) {
            return hall >= 0 && hall < hallCount && hall < MOST_HALLS;
        }

        boolean hasLink(int link) {
            return link >= 0 && link < linkCount && link < MOST_LINKS;
        }

        boolean hasStepped(int link) {
            return hasLink(link) && links[link].kind != LIFT;
        }

        boolean hasStair(int link) {
            return hasLink(link) && links[link].kind == STAIR;
        }

        boolean anyHallOver() {
            for (int i = 0; i < hallCount && i < halls.length; i++) {
                if (halls[i].isOver()) {
                    return true;
                }
            }
            return false;
        }

        /** Whether one more with that goal may come to the hall from a link. */
        boolean admits(int hall, int goal) {
            return hall == goal || hasHall(hall) && halls[hall].count < halls[hall].room;
        }

        void comeTo(int hall, int goal, int kind, int many) {
            if (hall == goal) {
                arrived += many;
            } else if (hasHall(hall)) {
                halls[hall].change(goal, kind, many);
            }
        }

        void copyAll(Station other) {
            copyMoving(other);
            textCount = other.textCount;
            textInUse = other.textInUse;
            days.copy(other.days);
            mends.copy(other.mends);
            loads.copy(other.loads);
        }

        /** What seconds look at or change. */
        void copyMoving(Station other) {
            second = other.second;
            hallCount = other.hallCount;
            linkCount = other.linkCount;
            burstCount = other.burstCount;
            arrived = other.arrived;
            waited = other.waited;
            goneBack = other.goneBack;
            trips = other.trips;
            for (int i = 0; i < hallCount && i < MOST_HALLS; i++) {
                halls[i].copy(other.halls[i]);
            }
            for (int i = 0; i < linkCount && i < MOST_LINKS; i++) {
                links[i].copy(other.links[i]);
            }
            for (int i = 0; i < burstCount && i < MOST_BURSTS; i++) {
                bursts[i].copy(other.bursts[i]);
            }
        }

        /** One stair between two halls, with a crowd at its foot. */
        void buildAlone(int length, int mode, int crowd) {
            hallCount = 2;
            linkCount = 1;
            burstCount = 0;
            halls[0].build(1);
            halls[1].build(1);
            links[0].build(STAIR, 0, 1, length, 0);
            links[0].mode = mode;
            comeTo(0, 1, ABLE, crowd);
        }
    }

    private static final class Hall {
        /** By goals: those who are able, then those on wheels. */
        final int[] inside = new int[2 * MOST_HALLS];
        final int[] outside = new int[2 * MOST_HALLS];
        int room;
        int bar;
        int count;
        int outsideCount;
        int shutSeconds;
        int over;
        boolean shut;

        void build(int space) {
            room = space;
            bar = 999;
            count = 0;
            outsideCount = 0;
            shutSeconds = 0;
            over = NONE;
            shut = false;
            Arrays.fill(inside, 0);
            Arrays.fill(outside, 0);
        }

        void copy(Hall other) {
            room = other.room;
            bar = other.bar;
            count = other.count;
            outsideCount = other.outsideCount;
            shutSeconds = other.shutSeconds;
            over = other.over;
            shut = other.shut;
            System.arraycopy(other.inside, 0, inside, 0, inside.length);
            System.arraycopy(other.outside, 0, outside, 0, outside.length);
        }

        boolean isOver() {
            return count > room;
        }

        int waiting(int goal, int kind) {
            int slot = kind * MOST_HALLS + goal;
            return slot >= 0 && slot < inside.length ? inside[slot] : 0;
        }

        void change(int goal, int kind, int many) {
            int slot = kind * MOST_HALLS + goal;
            if (slot >= 0 && slot < inside.length) {
                inside[slot] += many;
                count += many;
            }
        }

        void changeOutside(int goal, int kind, int many) {
            int slot = kind * MOST_HALLS + goal;
            if (slot >= 0 && slot < outside.length) {
                outside[slot] += many;
                outsideCount += many;
            }
        }
    }

    private static final class Link {
        /** Side by side: who is on a step, its goal and WALKING more if walking, or NONE. */
        final int[] steps = new int[2 * MOST_STEPS];
        int kind;
        int low;
        int high;
        int size;
        int cycle;
        int way;
        int wanted;
        int mode;
        int count;
        int takenSoFar;
        int offSoFar;
        boolean going;
        boolean tripped;

        void build(int newKind, int lowHall, int highHall, int newSize, int newCycle) {
            kind = newKind;
            low = lowHall;
            high = highHall;
            size = newSize;
            cycle = newCycle;
            way = newKind == LIFT ? 0 : UP;
            wanted = way;
            mode = 0;
            count = 0;
            takenSoFar = 0;
            offSoFar = 0;
            going = true;
            tripped = false;
            Arrays.fill(steps, NONE);
        }

        void copy(Link other) {
            kind = other.kind;
            low = other.low;
            high = other.high;
            size = other.size;
            cycle = other.cycle;
            way = other.way;
            wanted = other.wanted;
            mode = other.mode;
            count = other.count;
            takenSoFar = other.takenSoFar;
            offSoFar = other.offSoFar;
            going = other.going;
            tripped = other.tripped;
            System.arraycopy(other.steps, 0, steps, 0, steps.length);
        }

        int foot() {
            return way == DOWN ? high : low;
        }

        int head() {
            return way == DOWN ? low : high;
        }

        boolean takesNow() {
            return going && !tripped && wanted == way;
        }

        int seconds() {
            if (kind == LIFT) {
                return cycle;
            }
            return kind == FIXED ? 2 * size : size;
        }

        void turnTo(int newWay) {
            if (newWay == 0) {
                going = false;
                return;
            }
            wanted = newWay;
            if (count == 0 || way == newWay) {
                way = newWay;
                going = true;
            }
        }

        int who(int side, int step) {
            int slot = side * MOST_STEPS + step;
            return slot >= 0 && slot < steps.length ? steps[slot] : NONE;
        }

        void put(int side, int step, int who) {
            int slot = side * MOST_STEPS + step;
            if (slot >= 0 && slot < steps.length) {
                steps[slot] = who;
            }
        }

        void move(int side, int step) {
            put(side, step + 1, who(side, step));
            put(side, step, NONE);
        }

        /** Moves who is on the step, if anybody; true: he is on the last step now and is to step off. */
        boolean goesOn(int side, int step) {
            int who = who(side, step);
            if (who == NONE || step >= size - 1) {
                return who != NONE;
            }
            move(side, step);
            if (who < WALKING) {
                return false;
            }
            if (step + 2 < size && who(side, step + 2) == NONE) {
                move(side, step + 1);
            }
            return step + 2 >= size;
        }

        /** The side on whose first step the next one goes; NONE if nobody can. */
        int sideFor(boolean walks, boolean bySides) {
            if (bySides) {
                int side = walks ? 1 : 0;
                return who(side, 0) == NONE ? side : NONE;
            }
            if (who(0, 0) == NONE) {
                return 0;
            }
            return who(1, 0) == NONE ? 1 : NONE;
        }
    }

    private static final class Burst {
        int second;
        int every;
        int hall;
        int goal;
        int size;
        int kind;
        boolean street;

        void copy(Burst other) {
            second = other.second;
            every = other.every;
            hall = other.hall;
            goal = other.goal;
            size = other.size;
            kind = other.kind;
            street = other.street;
        }

        boolean isDue(int at) {
            if (every > 0 && at > second) {
                return (at - second) % every == 0;
            }
            return at == second;
        }
    }

    /** Which link is gone by first, from each hall to each goal. */
    private static final class Routes {
        private static final int FAR = 1000000;
        private static final int CELLS = MOST_HALLS * MOST_HALLS;

        private final int[] first = new int[2 * CELLS];
        private final int[] distance = new int[CELLS];
        private int known = NONE;

        void forget() {
            known = NONE;
        }

        int firstLink(int kind, int from, int goal) {
            int cell = kind * CELLS + from * MOST_HALLS + goal;
            return cell >= 0 && cell < first.length ? first[cell] : NONE;
        }

        /** Routes stay as they are while each link takes people as it did when they were found. */
        void find(Station s) {
            int links = 0;
            for (int i = 0; i < s.linkCount && i < MOST_LINKS; i++) {
                Link link = s.links[i];
                links = links << 2 | (link.takesNow() ? link.way + 1 : 0);
            }
            if (links == known) {
                return;
            }
            known = links;
            findFor(s, ABLE);
            findFor(s, WHEELS);
        }

        private void findFor(Station s, int kind) {
            Arrays.fill(distance, FAR);
            for (int i = 0; i < s.linkCount && i < MOST_LINKS; i++) {
                Link link = s.links[i];
                if (leads(link, kind, link.low)) {
                    shorten(link.low, link.high, link.seconds());
                }
                if (leads(link, kind, link.high)) {
                    shorten(link.high, link.low, link.seconds());
                }
            }
            for (int by = 0; by < MOST_HALLS; by++) {
                for (int from = 0; from < MOST_HALLS; from++) {
                    for (int to = 0; to < MOST_HALLS; to++) {
                        shorten(from, to, between(from, by) + between(by, to));
                    }
                }
            }
            for (int from = 0; from < MOST_HALLS; from++) {
                for (int goal = 0; goal < MOST_HALLS; goal++) {
                    first[kind * CELLS + from * MOST_HALLS + goal] = lowestFirst(s, kind, from, goal);
                }
            }
        }

        /** Whether those of the kind may go by the link from that hall, one of its two. */
        private boolean leads(Link link, int kind, int from) {
            if (link.kind == LIFT) {
                return kind == WHEELS;
            }
            return kind == ABLE && link.takesNow() && link.foot() == from;
        }

        private int between(int from, int to) {
            int cell = from * MOST_HALLS + to;
            return cell >= 0 && cell < distance.length ? distance[cell] : FAR;
        }

        private void shorten(int from, int to, int seconds) {
            int cell = from * MOST_HALLS + to;
            if (cell >= 0 && cell < distance.length && seconds < distance[cell]) {
                distance[cell] = seconds;
            }
        }

        private int lowestFirst(Station s, int kind, int from, int goal) {
            int shortest = between(from, goal);
            if (from == goal || shortest >= FAR) {
                return NONE;
            }
            for (int i = 0; i < s.linkCount && i < MOST_LINKS; i++) {
                Link link = s.links[i];
                if ((link.low == from || link.high == from) && leads(link, kind, from)) {
                    int next = link.low == from ? link.high : link.low;
                    int rest = next == goal ? 0 : between(next, goal);
                    if (link.seconds() + rest == shortest) {
                        return i;
                    }
                }
            }
            return NONE;
        }
    }

    /** What happens in a second. */
    private static final class Mover {
        final Routes routes = new Routes();
        private final int[] names = new int[Text.NAMES];

        void forgetRoutes() {
            routes.forget();
        }

        void passSecond(Station s, Text law) {
            comeInBursts(s, law);
            openHalls(s, law);
            turnEmptyLinks(s);
            routes.find(s);
            moveLinks(s, law);
            countSecond(s);
            s.second++;
        }

        private void comeInBursts(Station s, Text law) {
            for (int i = 0; i < s.burstCount && i < s.bursts.length; i++) {
                Burst burst = s.bursts[i];
                if (!burst.isDue(s.second) || !s.hasHall(burst.hall)) {
                    continue;
                }
                if (!burst.street) {
                    s.comeTo(burst.hall, burst.goal, burst.kind, burst.size);
                } else if (isSo(s, law, Text.BACK, burst.hall)) {
                    s.goneBack += burst.size;
                } else {
                    s.halls[burst.hall].changeOutside(burst.goal, burst.kind, burst.size);
                }
            }
        }

        private boolean isSo(Station s, Text law, int clause, int at) {
            if (!s.hasHall(at)) {
                return false;
            }
            Hall hall = s.halls[at];
            names[Text.SECOND] = s.second;
            names[Text.HALL] = at;
            names[Text.COUNT] = hall.count;
            names[Text.ROOM] = hall.room;
            names[Text.OUTSIDE] = hall.outsideCount;
            return law.anySo(clause, names);
        }

        private void openHalls(Station s, Text law) {
            for (int i = 0; i < s.hallCount && i < s.halls.length; i++) {
                Hall hall = s.halls[i];
                hall.shut = hall.count >= hall.bar || isSo(s, law, Text.SHUT, i);
                if (!hall.shut && hall.outsideCount > 0) {
                    letIn(s, i);
                }
            }
        }

        private void letIn(Station s, int at) {
            if (!s.hasHall(at)) {
                return;
            }
            Hall hall = s.halls[at];
            for (int goal = 0; goal < MOST_HALLS; goal++) {
                for (int kind = ABLE; kind <= WHEELS; kind++) {
                    int free = hall.room - hall.count;
                    int many = hall.outside[kind * MOST_HALLS + goal];
                    if (goal != at) {
                        many = Math.min(many, free);
                    }
                    if (free > 0 && many > 0) {
                        hall.changeOutside(goal, kind, -many);
                        s.comeTo(at, goal, kind, many);
                    }
                }
            }
        }

        private void turnEmptyLinks(Station s) {
            for (int i = 0; i < s.linkCount && i < s.links.length; i++) {
                if (s.links[i].count == 0) {
                    s.links[i].way = s.links[i].wanted;
                }
            }
        }

        private void moveLinks(Station s, Text law) {
            for (int i = 0; i < s.linkCount && i < s.links.length; i++) {
                Link link = s.links[i];
                if (link.kind == LIFT) {
                    if (link.cycle > 0 && s.second % link.cycle == 0) {
                        lift(s, i, link.low, link.high);
                        lift(s, i, link.high, link.low);
                    }
                } else {
                    int walk = walkOf(s, law, link);
                    if (link.kind == STAIR) {
                        moveStair(s, link);
                    } else if (s.second % 2 == 0) {
                        moveFixed(s, link);
                    }
                    takeUpToTwo(s, i, walk);
                }
            }
        }

        private void lift(Station s, int at, int from, int to) {
            if (!s.hasLink(at) || !s.hasHall(from)) {
                return;
            }
            Link link = s.links[at];
            for (int i = 0; i < link.size; i++) {
                int goal = goalOfMost(s, at, from, WHEELS);
                if (goal == NONE || !s.admits(to, goal)) {
                    return;
                }
                s.halls[from].change(goal, WHEELS, -1);
                s.comeTo(to, goal, WHEELS, 1);
                link.takenSoFar++;
                link.offSoFar++;
            }
        }

        /** Of those in the hall who are to go by the link: the goal of most. */
        private int goalOfMost(Station s, int link, int from, int kind) {
            if (!s.hasHall(from) || s.halls[from].count == 0) {
                return NONE;
            }
            int best = NONE;
            int most = 0;
            for (int goal = 0; goal < MOST_HALLS; goal++) {
                int many = s.halls[from].waiting(goal, kind);
                if (many > most && routes.firstLink(kind, from, goal) == link) {
                    best = goal;
                    most = many;
                }
            }
            return best;
        }

        private int walkOf(Station s, Text law, Link link) {
            if (link.kind != STAIR || link.mode != 0 || !s.hasHall(link.foot())) {
                return 0;
            }
            names[Text.SECOND] = s.second;
            names[Text.STEPS] = link.size;
            names[Text.LOAD] = link.count;
            names[Text.WAIT] = s.halls[link.foot()].count;
            return law.walk(names);
        }

        void moveStair(Station s, Link link) {
            if (!link.going || link.tripped || link.count == 0) {
                return;
            }
            for (int side = 0; side < 2; side++) {
                for (int step = link.size - 1; step >= 0; step--) {
                    if (link.goesOn(side, step) && !stepOff(s, link, side)) {
                        link.tripped = true;
                        s.trips++;
                        return;
                    }
                }
            }
        }

        /** False: there is one on the last step, and he can't. */
        private boolean stepOff(Station s, Link link, int side) {
            int last = link.size - 1;
            int who = link.who(side, last);
            if (who == NONE) {
                return true;
            }
            int goal = who % WALKING;
            if (!s.admits(link.head(), goal)) {
                return false;
            }
            link.put(side, last, NONE);
            link.count--;
            link.offSoFar++;
            s.comeTo(link.head(), goal, ABLE, 1);
            return true;
        }

        private void moveFixed(Station s, Link link) {
            if (!link.going || link.count == 0) {
                return;
            }
            for (int side = 0; side < 2; side++) {
                stepOff(s, link, side);
                for (int step = link.size - 2; step >= 0; step--) {
                    if (link.who(side, step + 1) == NONE) {
                        link.move(side, step);
                    }
                }
            }
        }

        void takeUpToTwo(Station s, int at, int walk) {
            if (!s.hasStepped(at) || !s.links[at].takesNow() || !s.hasHall(s.links[at].foot())) {
                return;
            }
            Link link = s.links[at];
            boolean bySides = link.kind == STAIR && link.mode == 0;
            for (int i = 0; i < 2; i++) {
                int goal = goalOfMost(s, at, link.foot(), ABLE);
                int c = link.takenSoFar;
                boolean walks = bySides && walk * (c + 1) / 10 > walk * c / 10;
                int side = link.sideFor(walks, bySides);
                if (goal == NONE || side == NONE) {
                    return;
                }
                s.halls[link.foot()].change(goal, ABLE, -1);
                link.put(side, 0, walks ? goal + WALKING : goal);
                link.count++;
                link.takenSoFar++;
            }
        }

        private void countSecond(Station s) {
            long waited = s.waited;
            for (int i = 0; i < s.hallCount && i < s.halls.length; i++) {
                Hall hall = s.halls[i];
                waited += (long) hall.count + hall.outsideCount;
                if (hall.shut) {
                    hall.shutSeconds++;
                }
                if (hall.over == NONE && hall.isOver()) {
                    hall.over = s.second;
                }
            }
            s.waited = (int) Math.min(waited, MOST_WAITED);
        }
    }

    /** A text that was read: its clauses as postfix code. */
    private static final class Text {
        static final int WALK = 0;
        static final int SHUT = 1;
        static final int BACK = 2;

        static final int NAMES = 8;
        static final int SECOND = 0;
        static final int HALL = 1;
        static final int COUNT = 2;
        static final int ROOM = 3;
        static final int OUTSIDE = 4;
        static final int STEPS = 5;
        static final int LOAD = 6;
        static final int WAIT = 7;

        static final int MOST_CLAUSES = 10;
        private static final int BOUND = 1000000;
        private static final int WALK_WITHOUT = 4;

        final int[] ops = new int[Reader.MOST_BYTES];
        final int[] values = new int[Reader.MOST_BYTES];
        final int[] kinds = new int[MOST_CLAUSES];
        final int[] ends = new int[MOST_CLAUSES];
        private final int[] stack = new int[Reader.MOST_BYTES];
        int opCount;
        int clauseCount;

        void add(int op, int value) {
            if (opCount >= 0 && opCount < ops.length) {
                ops[opCount] = op;
                values[opCount] = value;
                opCount++;
            }
        }

        boolean has(int clause) {
            for (int i = 0; i < clauseCount && i < kinds.length; i++) {
                if (kinds[i] == clause) {
                    return true;
                }
            }
            return false;
        }

        /** Adds a clause whose code is told behind this. */
        void open(int clause) {
            if (clauseCount >= 0 && clauseCount < kinds.length) {
                kinds[clauseCount] = clause;
                clauseCount++;
            }
        }

        void close() {
            if (clauseCount > 0 && clauseCount <= ends.length) {
                ends[clauseCount - 1] = opCount;
            }
        }

        boolean anySo(int clause, int[] names) {
            int from = 0;
            for (int i = 0; i < clauseCount && i < kinds.length; i++) {
                if (kinds[i] == clause && worth(from, ends[i], names) != 0) {
                    return true;
                }
                from = ends[i];
            }
            return false;
        }

        int walk(int[] names) {
            int from = 0;
            for (int i = 0; i < clauseCount && i < kinds.length; i++) {
                if (kinds[i] == WALK) {
                    return Math.max(0, Math.min(10, worth(from, ends[i], names)));
                }
                from = ends[i];
            }
            return WALK_WITHOUT;
        }

        private int worth(int from, int to, int[] names) {
            int top = 0;
            for (int i = Math.max(from, 0); i < to && i < ops.length; i++) {
                int op = ops[i];
                int value = values[i];
                long result = value;
                if (op == Reader.NAME) {
                    result = value >= 0 && value < names.length ? names[value] : 0;
                } else if (op == Reader.NOT && top >= 1) {
                    top--;
                    result = stack[top] == 0 ? 1 : 0;
                } else if (op == Reader.NEGATED && top >= 1) {
                    top--;
                    result = -stack[top];
                } else if (op != Reader.NUMBER && top >= 2) {
                    top -= 2;
                    result = joined(op, stack[top], stack[top + 1]);
                }
                if (top < stack.length) {
                    stack[top] = (int) Math.max(-BOUND, Math.min(BOUND, result));
                    top++;
                }
            }
            return stack[0];
        }

        private static long joined(int op, long a, long b) {
            switch (op) {
                case Reader.PLUS: return a + b;
                case Reader.MINUS: return a - b;
                case Reader.TIMES: return a * b;
                case Reader.SLASH: return b == 0 ? 0 : a / b;
                case Reader.LESS: return a < b ? 1 : 0;
                case Reader.AT_MOST: return a <= b ? 1 : 0;
                case Reader.ABOVE: return a > b ? 1 : 0;
                case Reader.AT_LEAST: return a >= b ? 1 : 0;
                case Reader.EQUAL: return a == b ? 1 : 0;
                case Reader.UNLIKE: return a != b ? 1 : 0;
                case Reader.AND: return a != 0 && b != 0 ? 1 : 0;
                case Reader.OR: return a != 0 || b != 0 ? 1 : 0;
                default: return 0;
            }
        }
    }

    /** The tape, and how it is read: cut into tokens, then by the grammar, which needs one token ahead. */
    private static final class Reader {
        static final int MOST_BYTES = 300;
        private static final int HIGHEST_NUMBER = 9999;
        private static final int MOST_OPEN = 8;

        private static final int END = 0;
        private static final int NO_TOKEN = 1;
        static final int NUMBER = 2;
        static final int LESS = 3;
        static final int AT_MOST = 4;
        static final int ABOVE = 5;
        static final int AT_LEAST = 6;
        static final int EQUAL = 7;
        static final int UNLIKE = 8;
        static final int PLUS = 9;
        static final int MINUS = 10;
        static final int TIMES = 11;
        static final int SLASH = 12;
        private static final int OPEN = 13;
        private static final int CLOSE = 14;
        private static final int STOP = 15;
        static final int NEGATED = 16;
        /** The words from here on, in the order of WORDS: first those that begin a clause. */
        private static final int FIRST_WORD = 20;
        static final int OR = 23;
        static final int AND = 24;
        static final int NOT = 25;
        static final int NAME = 26;
        private static final String WORDS =
            "walk shut back or and not second hall count room outside steps load wait ";

        private static final int CANNOT_STAND = 1;
        private static final int NUMBER_TOO_HIGH = 2;
        private static final int TOO_DEEP = 3;
        private static final int SECOND_WALK = 4;
        private static final int NOT_OF_CLAUSE = 5;
        private static final int TOO_MANY_CLAUSES = 6;

        private final int[] tape = new int[MOST_BYTES];
        private final int[] kinds = new int[MOST_BYTES + 1];
        private final int[] values = new int[MOST_BYTES + 1];
        private final int[] places = new int[MOST_BYTES + 1];
        int length;
        int faultKind = NONE;
        int faultPlace = NONE;
        private int tokenCount;
        private int next;
        private int clause;

        boolean hasRoomFor(int bytes) {
            return length + bytes <= MOST_BYTES;
        }

        void append(int four) {
            for (int shift = 24; shift >= 0; shift -= 8) {
                if (length >= 0 && length < tape.length) {
                    tape[length] = four >> shift & 255;
                    length++;
                }
            }
        }

        /** Empties the tape; false: it has a fault. */
        boolean readInto(Text text) {
            cut();
            length = 0;
            next = 0;
            faultKind = 0;
            faultPlace = NONE;
            text.opCount = 0;
            text.clauseCount = 0;
            for (int i = 0; i < tokenCount && kind() != END; i++) {
                if (!readClause(text)) {
                    return false;
                }
            }
            return true;
        }

        private void cut() {
            tokenCount = 0;
            int at = 0;
            for (int i = 0; i < MOST_BYTES && at < length; i++) {
                at = cutOne(at);
            }
            addToken(END, 0, length);
        }

        /** Where the next token may begin. */
        private int cutOne(int at) {
            int here = byteAt(at);
            if (here == 32 || here == 10) {
                return at + 1;
            }
            int behind = at + 1;
            if (isLetter(here)) {
                while (behind < length && isLetter(byteAt(behind))) {
                    behind++;
                }
                addWord(at, behind);
            } else if (isDigit(here)) {
                int value = here - '0';
                while (behind < length && isDigit(byteAt(behind))) {
                    value = Math.min(HIGHEST_NUMBER + 1, value * 10 + byteAt(behind) - '0');
                    behind++;
                }
                addToken(NUMBER, value, at);
            } else {
                int sign = signOf(here);
                if ((sign == LESS || sign == ABOVE) && byteAt(behind) == '=') {
                    sign++;
                    behind++;
                }
                addToken(sign, 0, at);
            }
            return behind;
        }

        /** NONE behind the end. */
        private int byteAt(int at) {
            return at >= 0 && at < length && at < tape.length ? tape[at] : NONE;
        }

        private static boolean isLetter(int sign) {
            return sign >= 'a' && sign <= 'z' || sign >= 'A' && sign <= 'Z';
        }

        private static boolean isDigit(int sign) {
            return sign >= '0' && sign <= '9';
        }

        private static int signOf(int sign) {
            switch (sign) {
                case '<': return LESS;
                case '>': return ABOVE;
                case '=': return EQUAL;
                case '#': return UNLIKE;
                case '+': return PLUS;
                case '-': return MINUS;
                case '*': return TIMES;
                case '/': return SLASH;
                case '(': return OPEN;
                case ')': return CLOSE;
                case ';': return STOP;
                default: return NO_TOKEN;
            }
        }

        private void addToken(int kind, int value, int place) {
            if (tokenCount >= 0 && tokenCount < kinds.length) {
                kinds[tokenCount] = kind;
                values[tokenCount] = value;
                places[tokenCount] = place;
                tokenCount++;
            }
        }

        private void addWord(int from, int behind) {
            int word = FIRST_WORD;
            int start = 0;
            for (int i = 0; i < WORDS.length(); i++) {
                if (WORDS.charAt(i) == ' ') {
                    if (isWord(from, behind, start, i)) {
                        addToken(Math.min(word, NAME), word - NAME, from);
                        return;
                    }
                    word++;
                    start = i + 1;
                }
            }
            addToken(NO_TOKEN, 0, from);
        }

        private boolean isWord(int from, int behind, int start, int stop) {
            if (behind - from != stop - start || start < 0 || stop > WORDS.length()) {
                return false;
            }
            for (int i = start; i < stop; i++) {
                if (WORDS.charAt(i) != byteAt(from + i - start)) {
                    return false;
                }
            }
            return true;
        }

        private int kind() {
            return next >= 0 && next < tokenCount && next < kinds.length ? kinds[next] : END;
        }

        private int value() {
            return next >= 0 && next < tokenCount && next < values.length ? values[next] : 0;
        }

        private boolean fails(int fault) {
            faultKind = fault;
            faultPlace = next >= 0 && next < tokenCount && next < places.length ? places[next] : 0;
            return false;
        }

        private boolean readClause(Text text) {
            clause = kind() - FIRST_WORD;
            if (clause != Text.WALK && clause != Text.SHUT && clause != Text.BACK) {
                return fails(CANNOT_STAND);
            }
            if (clause == Text.WALK && text.has(Text.WALK)) {
                return fails(SECOND_WALK);
            }
            if (text.clauseCount >= Text.MOST_CLAUSES) {
                return fails(TOO_MANY_CLAUSES);
            }
            next++;
            text.open(clause);
            boolean good = clause == Text.WALK ? readSum(text, 0) : readEither(text);
            text.close();
            if (good && kind() != STOP) {
                return fails(CANNOT_STAND);
            }
            next++;
            return good;
        }

        private boolean readEither(Text text) {
            boolean good = readBoth(text);
            for (int i = 0; i < MOST_BYTES && good && kind() == OR; i++) {
                next++;
                good = readBoth(text);
                text.add(OR, 0);
            }
            return good;
        }

        private boolean readBoth(Text text) {
            boolean good = readAsk(text, 0);
            for (int i = 0; i < MOST_BYTES && good && kind() == AND; i++) {
                next++;
                good = readAsk(text, 0);
                text.add(AND, 0);
            }
            return good;
        }

        /** Open is how many of ( not and - stand open around this, here and below. */
        private boolean readAsk(Text text, int open) {
            if (kind() == NOT) {
                if (open >= MOST_OPEN) {
                    return fails(TOO_DEEP);
                }
                next++;
                boolean good = readAsk(text, open + 1);
                text.add(NOT, 0);
                return good;
            }
            if (!readSum(text, open)) {
                return false;
            }
            int asked = kind();
            if (asked < LESS || asked > UNLIKE) {
                return fails(CANNOT_STAND);
            }
            next++;
            boolean good = readSum(text, open);
            text.add(asked, 0);
            return good;
        }

        private boolean readSum(Text text, int open) {
            boolean good = readProduct(text, open);
            for (int i = 0; i < MOST_BYTES && good && (kind() == PLUS || kind() == MINUS); i++) {
                int sign = kind();
                next++;
                good = readProduct(text, open);
                text.add(sign, 0);
            }
            return good;
        }

        private boolean readProduct(Text text, int open) {
            boolean good = readOne(text, open);
            for (int i = 0; i < MOST_BYTES && good && (kind() == TIMES || kind() == SLASH); i++) {
                int sign = kind();
                next++;
                good = readOne(text, open);
                text.add(sign, 0);
            }
            return good;
        }

        private boolean readOne(Text text, int open) {
            int kind = kind();
            if (kind == NUMBER || kind == NAME) {
                if (kind == NUMBER && value() > HIGHEST_NUMBER) {
                    return fails(NUMBER_TOO_HIGH);
                }
                boolean ofWalk = value() >= Text.STEPS;
                if (kind == NAME && value() != Text.SECOND && ofWalk != (clause == Text.WALK)) {
                    return fails(NOT_OF_CLAUSE);
                }
                text.add(kind, value());
                next++;
                return true;
            }
            if (kind != OPEN && kind != MINUS) {
                return fails(CANNOT_STAND);
            }
            if (open >= MOST_OPEN) {
                return fails(TOO_DEEP);
            }
            next++;
            if (kind == MINUS) {
                boolean good = readOne(text, open + 1);
                text.add(NEGATED, 0);
                return good;
            }
            boolean good = readSum(text, open + 1);
            if (good && kind() != CLOSE) {
                return fails(CANNOT_STAND);
            }
            next++;
            return good;
        }
    }

    /** A trial's days, by how they were and by class. */
    private static final class Days {
        static final int CLASSES = 6;
        private static final int MOST = 40;
        private static final int NO_EFFECT = -1000000000;

        private final int[] sums = new int[2 * CLASSES];
        private final int[] many = new int[2 * CLASSES];
        int count;

        int tell(boolean stood, int kind, int counted) {
            int slot = stood ? CLASSES + kind : kind;
            if (count >= MOST || slot < 0 || slot >= sums.length) {
                return NONE;
            }
            sums[slot] += counted;
            many[slot]++;
            count++;
            return count;
        }

        void copy(Days other) {
            count = other.count;
            System.arraycopy(other.sums, 0, sums, 0, sums.length);
            System.arraycopy(other.many, 0, many, 0, many.length);
        }

        int meanEffect() {
            long together = 0;
            int stoodDays = 0;
            for (int i = 0; i < CLASSES; i++) {
                int stood = many[CLASSES + i];
                int others = many[i];
                if (stood > 0 && others > 0) {
                    long mean = sums[CLASSES + i] * 1000L / stood;
                    long otherMean = sums[i] * 1000L / others;
                    together += (mean - otherMean) * stood;
                    stoodDays += stood;
                }
            }
            return stoodDays > 0 ? (int) (together / stoodDays) : NO_EFFECT;
        }
    }

    /** Mends one behind the other. */
    private static final class Mends {
        private static final int MOST = 6;

        private final int[] worn = new int[MOST];
        private final int[] more = new int[MOST];
        private final int[] limit = new int[MOST];
        private final int[] months = new int[MOST];
        /** By the set of those that are done: how many count from then on, in the best order. */
        final int[] fewest = new int[1 << MOST];
        int count;

        int tell(int newWorn, int newMore, int newLimit, int newMonths) {
            if (count < 0 || count >= MOST) {
                return NONE;
            }
            worn[count] = newWorn;
            more[count] = newMore;
            limit[count] = newLimit;
            months[count] = newMonths;
            count++;
            return count - 1;
        }

        void copy(Mends other) {
            count = other.count;
            System.arraycopy(other.worn, 0, worn, 0, MOST);
            System.arraycopy(other.more, 0, more, 0, MOST);
            System.arraycopy(other.limit, 0, limit, 0, MOST);
            System.arraycopy(other.months, 0, months, 0, MOST);
        }

        void weigh() {
            int everyOne = Math.min((1 << count) - 1, fewest.length - 1);
            for (int done = everyOne; done >= 0; done--) {
                int next = bestNext(done);
                fewest[done] = next == NONE ? 0 : countBy(done, next);
            }
        }

        /** The i-th of the best order, after weigh. */
        int inTurn(int i) {
            int done = 0;
            for (int k = 0; k < i && k < MOST; k++) {
                int next = bestNext(done);
                if (next != NONE) {
                    done |= 1 << next;
                }
            }
            return bestNext(done);
        }

        private int bestNext(int done) {
            int best = NONE;
            int least = 0;
            for (int i = 0; i < count && i < MOST; i++) {
                if ((done >> i & 1) == 0) {
                    int counted = countBy(done, i);
                    if (best == NONE || counted < least) {
                        best = i;
                        least = counted;
                    }
                }
            }
            return best;
        }

        /** How many count from the month on in which that one is begun behind those done. */
        private int countBy(int done, int begun) {
            int behind = done | 1 << begun;
            if (begun < 0 || begun >= MOST || behind < 0 || behind >= fewest.length) {
                return 0;
            }
            int first = 0;
            for (int i = 0; i < MOST; i++) {
                first += (done >> i & 1) == 1 ? months[i] : 0;
            }
            int counted = fewest[behind];
            for (int i = 0; i < count && i < MOST; i++) {
                for (int month = first; month < first + months[begun]; month++) {
                    if ((behind >> i & 1) == 0 && worn[i] + more[i] * month > limit[i]) {
                        counted++;
                    }
                }
            }
            return counted;
        }
    }

    /** Who was on a stair, second by second. */
    private static final class Loads {
        private static final int MOST = 60;
        private static final int MOST_IN_ONE = 2;

        private final int[] loads = new int[MOST];
        int count;

        int tell(int many) {
            if (count < 0 || count >= MOST) {
                return NONE;
            }
            loads[count] = many;
            count++;
            return count;
        }

        void copy(Loads other) {
            count = other.count;
            System.arraycopy(other.loads, 0, loads, 0, MOST);
        }

        /**
         * Who steps on in a second s is told by who did in s - length and by how the load grew in s.
         * So each of the length seconds up to second 0 has its own chain of later ones, and
         * what is free is how the first load was shared out among their beginnings.
         */
        int steppedOn(int length, boolean most) {
            if (length < 1 || count < 1) {
                return NONE;
            }
            int shortChain = (count - 1) / length;
            int rest = loads[0];
            int spareLong = 0;
            int spareShort = 0;
            int sum = 0;
            for (int begin = 1 - length; begin <= 0; begin++) {
                int grown = 0;
                int lowest = 0;
                int highest = 0;
                int behind = 0;
                for (int s = begin + length; s < count && s < MOST; s += length) {
                    grown += s > 0 ? loads[s] - loads[s - 1] : 0;
                    lowest = Math.min(lowest, grown);
                    highest = Math.max(highest, grown);
                    sum += grown;
                    behind++;
                }
                int spare = MOST_IN_ONE - highest + lowest;
                if (spare < 0) {
                    return NONE;
                }
                rest += lowest;
                sum -= lowest * behind;
                if (behind > shortChain) {
                    spareLong += spare;
                } else {
                    spareShort += spare;
                }
            }
            if (rest < 0 || rest > spareLong + spareShort) {
                return NONE;
            }
            int inLong = most ? Math.min(rest, spareLong) : Math.max(0, rest - spareShort);
            return sum + rest * shortChain + inLong;
        }
    }
}
