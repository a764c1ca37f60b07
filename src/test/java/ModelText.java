import java.util.HashMap;
import java.util.Map;

/** A text that is read anew for each question, straight from its bytes. */
final class ModelText {
    /** What a text is refused for. */
    static final class Fault extends RuntimeException {
        private static final long serialVersionUID = 1;
        final int kind;
        final int place;

        Fault(int kind, int place) {
            this.kind = kind;
            this.place = place;
        }
    }

    private static final String SIGNS = "<=>#+-*/();";
    private static final String NAMES = " second hall count room outside steps load wait ";
    private static final String OF_WALK = " second steps load wait ";
    private static final String OF_OTHERS = " second hall count room outside ";

    private final String source;
    private final Map<String, Integer> values = new HashMap<>();
    private int at;
    private int start;
    private String token;
    private String clause;
    private int open;

    ModelText(String source) {
        this.source = source;
    }

    void set(String name, int value) {
        values.put(name, value);
    }

    boolean anySo(String asked) {
        return read(asked) != 0;
    }

    int walk() {
        int walk = (int) read("walk");
        return source.contains("walk") ? Math.max(0, Math.min(10, walk)) : 4;
    }

    /** The walk sum, or whether any clause of that kind is so; throws the first fault. */
    long read(String asked) {
        at = 0;
        open = 0;
        long answer = 0;
        int count = 0;
        boolean walkSeen = false;
        next();
        while (!token.isEmpty()) {
            clause = token;
            if (!clause.equals("walk") && !clause.equals("shut") && !clause.equals("back")) {
                throw new Fault(1, start);
            }
            if (clause.equals("walk") && walkSeen) {
                throw new Fault(4, start);
            }
            if (count == 10) {
                throw new Fault(6, start);
            }
            count++;
            walkSeen |= clause.equals("walk");
            String kind = clause;
            next();
            long worth = kind.equals("walk") ? sum() : either() ? 1 : 0;
            if (kind.equals(asked)) {
                answer = kind.equals("walk") ? worth : answer | worth;
            }
            expect(";");
        }
        return answer;
    }

    private void next() {
        while (at < source.length() && (source.charAt(at) == ' ' || source.charAt(at) == '\n')) {
            at++;
        }
        start = at;
        if (at == source.length()) {
            token = "";
            return;
        }
        char c = source.charAt(at++);
        if (letter(c)) {
            while (at < source.length() && letter(source.charAt(at))) {
                at++;
            }
        } else if (digit(c)) {
            while (at < source.length() && digit(source.charAt(at))) {
                at++;
            }
        } else if ((c == '<' || c == '>') && at < source.length() && source.charAt(at) == '=') {
            at++;
        }
        token = source.substring(start, at);
        boolean known = letter(c) || digit(c) || SIGNS.indexOf(c) >= 0;
        if (!known) {
            throw new Fault(1, start);
        }
    }

    private static boolean letter(char c) {
        return "abcdefghijklmnopqrstuvwxyzABCDEFGHIJKLMNOPQRSTUVWXYZ".indexOf(c) >= 0;
    }

    private static boolean digit(char c) {
        return "0123456789".indexOf(c) >= 0;
    }

    private void expect(String sign) {
        if (!token.equals(sign)) {
            throw new Fault(1, start);
        }
        next();
    }

    private boolean either() {
        boolean so = both();
        while (token.equals("or")) {
            next();
            so = both() | so;
        }
        return so;
    }

    private boolean both() {
        boolean so = ask();
        while (token.equals("and")) {
            next();
            so = ask() & so;
        }
        return so;
    }

    private void open() {
        open++;
        if (open == 9) {
            throw new Fault(3, start);
        }
        next();
    }

    private boolean ask() {
        if (token.equals("not")) {
            open();
            boolean so = ask();
            open--;
            return !so;
        }
        long left = sum();
        String sign = token;
        switch (sign) {
            case "<": next(); return left < sum();
            case "<=": next(); return left <= sum();
            case ">": next(); return left > sum();
            case ">=": next(); return left >= sum();
            case "=": next(); return left == sum();
            case "#": next(); return left != sum();
            default: throw new Fault(1, start);
        }
    }

    private long sum() {
        long sum = product();
        while (token.equals("+") || token.equals("-")) {
            boolean plus = token.equals("+");
            next();
            long other = product();
            sum = bound(plus ? sum + other : sum - other);
        }
        return sum;
    }

    private long product() {
        long product = one();
        while (token.equals("*") || token.equals("/")) {
            boolean times = token.equals("*");
            next();
            long other = one();
            product = bound(times ? product * other : other == 0 ? 0 : product / other);
        }
        return product;
    }

    private long one() {
        if (token.equals("(")) {
            open();
            long sum = sum();
            open--;
            expect(")");
            return sum;
        }
        if (token.equals("-")) {
            open();
            long one = one();
            open--;
            return -one;
        }
        if (!token.isEmpty() && digit(token.charAt(0))) {
            String digits = token.replaceFirst("^0+(?=.)", "");
            if (digits.length() > 4) {
                throw new Fault(2, start);
            }
            next();
            return Long.parseLong(digits);
        }
        String name = " " + token + " ";
        if (token.isEmpty() || !NAMES.contains(name)) {
            throw new Fault(1, start);
        }
        if (!(clause.equals("walk") ? OF_WALK : OF_OTHERS).contains(name)) {
            throw new Fault(5, start);
        }
        long value = values.getOrDefault(token, 0);
        next();
        return bound(value);
    }

    private static long bound(long value) {
        return Math.max(-1000000, Math.min(1000000, value));
    }
}
