import java.util.ArrayList;
import java.util.List;

/** Compares the program with the model and with slow ways of counting, over many runs made by chance. */
final class ModelTests {
    private ModelTests() {
    }

    static void runAll() {
        for (int seed = 1; seed <= 400; seed++) {
            new ModelRun(seed).compare();
        }
        texts();
        alone();
        orders();
        takens();
        effects();
    }

    private static void texts() {
        Chance chance = new Chance(5);
        String[] tokens = {
            "walk", "shut", "back", "or", "and", "not", "second", "hall", "count", "room", "outside",
            "steps", "load", "wait", "(", ")", "-", "+", "*", "/", "<", "<=", ">", ">=", "=", "#", ";",
            "7", "9999", "10000", "foo", "!", "not not not", "((((", "----", "1<2", "walk 1;", "shut 1<2;",
        };
        for (int i = 0; i < 6000; i++) {
            String text = chance.in(2) ? lawWithFault(chance, tokens) : soup(chance, tokens);
            if (text.length() > 300) {
                continue;
            }
            int kind = 0;
            int place = -1;
            try {
                new ModelText(text).read("walk");
            } catch (ModelText.Fault fault) {
                kind = fault.kind;
                place = fault.place;
            }
            Check.fault(text, kind, place);
        }
    }

    private static String soup(Chance chance, String[] tokens) {
        StringBuilder soup = new StringBuilder(chance.in(2) ? "shut 1" : "");
        int many = chance.from(0, 12);
        for (int i = 0; i < many; i++) {
            soup.append(tokens[chance.below(tokens.length)]).append(chance.in(4) ? "\n" : " ");
        }
        return soup.toString();
    }

    private static String lawWithFault(Chance chance, String[] tokens) {
        String law = law(chance);
        int at = chance.from(0, law.length());
        int behind = Math.min(law.length(), at + chance.below(3));
        return law.substring(0, at) + (chance.in(4) ? "" : tokens[chance.below(tokens.length)])
            + law.substring(behind);
    }

    /** A text without faults, mostly of up to 300 bytes. */
    static String law(Chance chance) {
        StringBuilder law = new StringBuilder();
        boolean walkSeen = false;
        int clauses = chance.from(0, 5);
        for (int i = 0; i < clauses; i++) {
            int kind = chance.below(3);
            if (kind == 0 && !walkSeen) {
                walkSeen = true;
                law.append("walk ").append(sum(chance, "walk", 3)).append(';');
            } else {
                law.append(kind == 1 ? "shut " : "back ").append(either(chance)).append(';');
            }
        }
        return law.toString();
    }

    private static String either(Chance chance) {
        StringBuilder either = new StringBuilder();
        int asks = chance.from(1, 3);
        for (int i = 0; i < asks; i++) {
            either.append(i == 0 ? "" : chance.in(2) ? " and " : " or ");
            either.append(chance.in(4) ? "not " : "").append(sum(chance, "shut", 2));
            String[] signs = {"<", "<=", ">", ">=", "=", "#"};
            either.append(signs[chance.below(6)]).append(sum(chance, "shut", 2));
        }
        return either.toString();
    }

    private static String sum(Chance chance, String clause, int depth) {
        int form = depth == 0 ? chance.below(2) : chance.below(6);
        if (form == 0) {
            return Integer.toString(chance.in(3) ? chance.from(0, 9999) : chance.from(0, 9));
        }
        if (form == 1) {
            String[] names = clause.equals("walk")
                ? new String[] {"second", "steps", "load", "wait"}
                : new String[] {"second", "hall", "count", "room", "outside"};
            return names[chance.below(names.length)];
        }
        if (form == 2) {
            return "(" + sum(chance, clause, depth - 1) + ")";
        }
        if (form == 3) {
            return "-" + sum(chance, clause, 0);
        }
        char sign = "+-*/".charAt(chance.below(4));
        return sum(chance, clause, depth - 1) + sign + sum(chance, clause, depth - 1);
    }

    private static void alone() {
        Chance chance = new Chance(9);
        MovingStairs x = new MovingStairs();
        for (int i = 0; i < 400; i++) {
            x = i % 200 == 0 ? new MovingStairs() : x;
            int length = chance.from(2, 40);
            int w = chance.from(0, 10);
            int mode = chance.below(2);
            int t = chance.from(1, chance.in(3) ? 999 : 99);
            String call = "(" + length + ", " + w + ", " + mode + ", " + t + ")";
            Check.is("alone" + call, x.alone(length, w, mode, t), Model.alone(length, w, mode, t));
            Check.is("crossing" + call, x.crossing(length, t), Model.crossing(length, t));
        }
    }

    private static void orders() {
        Chance chance = new Chance(11);
        for (int i = 0; i < 300; i++) {
            int many = chance.from(1, 6);
            int[][] mends = new int[many][];
            MovingStairs x = new MovingStairs();
            for (int k = 0; k < many; k++) {
                mends[k] = new int[] {
                    chance.from(0, 30), chance.from(0, 4), chance.from(0, 40), chance.from(1, 9),
                };
                x.mend(mends[k][0], mends[k][1], mends[k][2], mends[k][3]);
            }
            List<int[]> orders = new ArrayList<>();
            permute(orders, new int[many], 0, 0);
            int[] best = null;
            for (int[] order : orders) {
                if (best == null || counted(mends, order) < counted(mends, best)) {
                    best = order;
                }
            }
            Check.is("how many count", x.order(-1), counted(mends, best));
            for (int k = 0; k < many; k++) {
                Check.is("order " + k, x.order(k), best[k]);
            }
        }
    }

    private static void permute(List<int[]> orders, int[] order, int at, int used) {
        if (at == order.length) {
            orders.add(order.clone());
        }
        for (int i = 0; at < order.length && i < order.length; i++) {
            if ((used >> i & 1) == 0) {
                order[at] = i;
                permute(orders, order, at + 1, used | 1 << i);
            }
        }
    }

    private static int counted(int[][] mends, int[] order) {
        int counted = 0;
        int begins = 0;
        for (int k : order) {
            for (int month = 0; month < begins; month++) {
                counted += mends[k][0] + month * mends[k][1] > mends[k][2] ? 1 : 0;
            }
            begins += mends[k][3];
        }
        return counted;
    }

    private static void takens() {
        Chance chance = new Chance(13);
        for (int i = 0; i < 800; i++) {
            int length = chance.from(2, 4);
            int many = chance.from(1, 6);
            int[] on = new int[length + many - 1];
            for (int k = 0; k < on.length; k++) {
                on[k] = chance.below(3);
            }
            int[] loads = new int[many];
            MovingStairs x = new MovingStairs();
            for (int s = 0; s < many; s++) {
                for (int k = s; k < s + length; k++) {
                    loads[s] += on[k];
                }
                loads[s] += chance.in(12) ? chance.from(0, 1) : 0;
                x.load(loads[s]);
            }
            int[] found = {-1, -1};
            shareOut(new int[on.length], 0, length, loads, found);
            Check.is("taken, least", x.taken(length, false), found[0]);
            Check.is("taken, most", x.taken(length, true), found[1]);
        }
    }

    private static void shareOut(int[] on, int at, int length, int[] loads, int[] found) {
        if (at >= length) {
            int load = 0;
            for (int k = at - length; k < at; k++) {
                load += on[k];
            }
            if (load != loads[at - length]) {
                return;
            }
        }
        if (at == on.length) {
            int taken = 0;
            for (int k = length; k < on.length; k++) {
                taken += on[k];
            }
            found[0] = found[0] < 0 ? taken : Math.min(found[0], taken);
            found[1] = Math.max(found[1], taken);
            return;
        }
        for (int v = 0; v < 3; v++) {
            on[at] = v;
            shareOut(on, at + 1, length, loads, found);
        }
    }

    private static void effects() {
        Chance chance = new Chance(17);
        for (int i = 0; i < 300; i++) {
            int many = chance.from(0, 40);
            long[][] sums = new long[6][2];
            int[][] days = new int[6][2];
            MovingStairs x = new MovingStairs();
            for (int k = 0; k < many; k++) {
                int stood = chance.below(2);
                int kind = chance.below(6);
                int count = chance.from(0, chance.in(2) ? 9999 : 9);
                sums[kind][stood] += count;
                days[kind][stood]++;
                x.day(stood == 1, kind, count);
            }
            long sum = 0;
            long by = 0;
            for (int kind = 0; kind < 6; kind++) {
                if (days[kind][0] > 0 && days[kind][1] > 0) {
                    long mean = 1000 * sums[kind][1] / days[kind][1];
                    long other = 1000 * sums[kind][0] / days[kind][0];
                    sum += (mean - other) * days[kind][1];
                    by += days[kind][1];
                }
            }
            Check.is("effect", x.effect(), by == 0 ? -1000000000 : sum / by);
        }
    }
}
