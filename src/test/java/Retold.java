import java.util.ArrayList;
import java.util.List;

/**
 * An object of the program that may be asked without end: as nothing is promised of one behind its
 * 512th call, all that was told is told anew to a new one in time. Its methods bear the program's names.
 */
final class Retold {
    private static final int MOST_CALLS = 512;

    private final List<Edge.Call> told = new ArrayList<>();
    private MovingStairs x = new MovingStairs();
    private int calls;

    /** A call that changes nothing. */
    private long ask(Edge.Call call) {
        if (calls == MOST_CALLS) {
            x = new MovingStairs();
            for (Edge.Call each : told) {
                each.on(x);
            }
            calls = told.size();
        }
        calls++;
        return call.on(x);
    }

    private long tell(Edge.Call call) {
        long answer = ask(call);
        told.add(call);
        return answer;
    }

    /** Tells the text and makes it THE TEXT. */
    void law(String text) {
        for (int at = 0; at < text.length(); at += 20) {
            int[] fours = Check.fours(text, at);
            tell(y -> y.feed(fours[0], fours[1], fours[2], fours[3], fours[4]));
        }
        tell(y -> y.end(text.length()));
        long number = tell(MovingStairs::text);
        Check.is("text of " + text, number >= 0, true);
        Check.is("by it", tell(y -> Edge.bit(y.by((int) number))), 1);
    }

    void lawless() {
        Check.is("by none", tell(y -> Edge.bit(y.by(-1))), 1);
    }

    void hall(int room) {
        tell(y -> y.hall(room));
    }

    void bar(int hall, int v) {
        tell(y -> Edge.bit(y.bar(hall, v)));
    }

    void link(int kind, int low, int high, int size, int cycle) {
        tell(y -> y.link(kind, low, high, size, cycle));
    }

    boolean turn(int link, int way) {
        return tell(y -> Edge.bit(y.turn(link, way))) == 1;
    }

    boolean mode(int link, int v) {
        return tell(y -> Edge.bit(y.mode(link, v))) == 1;
    }

    boolean reset(int link) {
        return tell(y -> Edge.bit(y.reset(link))) == 1;
    }

    void burst(int second, int every, int hall, int goal, int n, boolean wheels, boolean street) {
        tell(y -> y.burst(second, every, hall, goal, n, wheels, street));
    }

    long run(int n) {
        return tell(y -> y.run(n));
    }

    long image() {
        return tell(MovingStairs::image);
    }

    long back() {
        return tell(MovingStairs::back);
    }

    long of(int hall, int what) {
        return ask(y -> y.of(hall, what));
    }

    long on(int link, int what) {
        return ask(y -> y.on(link, what));
    }

    long step(int link, int side, int step) {
        return ask(y -> y.step(link, side, step));
    }

    long route(int hall, int goal, boolean wheels) {
        return ask(y -> y.route(hall, goal, wheels));
    }

    long all(int what) {
        return ask(y -> y.all(what));
    }

    long about(int what) {
        return ask(y -> y.about(what));
    }

    long ways(int links, int n, int what) {
        return ask(y -> y.ways(links, n, what));
    }

    long least(int hall, int n, int what) {
        return ask(y -> y.least(hall, n, what));
    }

    long felt(int link, int n) {
        return ask(y -> y.felt(link, n));
    }

    long standing(int link, int n) {
        return ask(y -> y.standing(link, n));
    }
}
