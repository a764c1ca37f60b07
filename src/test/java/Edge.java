/** Looks at one sentence of the document at a time; what fails tells the sentence. */
final class Edge {
    static final int LOWEST = Integer.MIN_VALUE;
    static final int HIGHEST = Integer.MAX_VALUE;
    static final int NONE = MovingStairs.NONE;

    private static String sentence = "";

    /** A call whose answer is a number, or 1 for true and 0 for false. */
    interface Call {
        long on(MovingStairs x);
    }

    private Edge() {
    }

    static void sentence(String quoted) {
        sentence = quoted;
    }

    static void is(String what, long got, long due) {
        Check.is("<" + sentence + "> " + what, got, due);
    }

    static void is(String what, boolean got, boolean due) {
        Check.is("<" + sentence + "> " + what, got, due);
    }

    static long bit(boolean answer) {
        return answer ? 1 : 0;
    }

    static MovingStairs halls(int... rooms) {
        MovingStairs x = new MovingStairs();
        for (int room : rooms) {
            x.hall(room);
        }
        return x;
    }

    static void run(MovingStairs x, int seconds) {
        for (int left = seconds; left > 0; left -= 300) {
            x.run(Math.min(left, 300));
        }
    }

    /** Each call answers that, and the busy world that heard them goes on like one that didn't. */
    static void refused(long due, Call... calls) {
        MovingStairs x = World.busy();
        for (int i = 0; i < calls.length; i++) {
            is("refused call " + i, calls[i].on(x), due);
        }
        World.alike(x, World.busy());
    }
}
