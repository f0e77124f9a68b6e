import java.util.function.Function;
import java.util.function.Supplier;

/** What the tests of the document's edges share: each names the sentence that it tests. */
class Edge {
    static final Class<? extends RuntimeException> INDEX = IndexOutOfBoundsException.class;
    static final Class<? extends RuntimeException> STATE = IllegalStateException.class;
    static final Class<? extends RuntimeException> ARGUMENT = IllegalArgumentException.class;

    private static Check check;

    static void start(String test) {
        check = new Check(test);
    }

    /** Each test stands alone: one that a call ends by an exception does not hide those behind it. */
    static void test(Runnable test) {
        try {
            test.run();
        } catch (RuntimeException e) {
            check.tell("a call that was to answer threw " + e + lineOf(e));
        }
    }

    private static String lineOf(RuntimeException e) {
        for (StackTraceElement frame : e.getStackTrace()) {
            if (frame.getClassName().startsWith("Edge")) {
                return ", " + frame;
            }
        }
        return "";
    }

    static void end() {
        check.end();
    }

    static void sentence(String words) {
        check.sentence(words);
    }

    static void due(String call, long got, long want) {
        check.due(call, got, want);
    }

    static void due(String call, boolean got, boolean want) {
        check.due(call, got, want);
    }

    static void dueText(String what, String got, String want) {
        check.dueText(what, got, want);
    }

    static void dueThrow(String call, Class<? extends RuntimeException> want, Runnable run) {
        check.dueThrow(call, want, run);
    }

    static TowerBench bench(int pegs, int disks) {
        TowerBench b = new TowerBench();
        b.begin(pegs, disks);
        return b;
    }

    /** Each pair is 10 times the peg from which, and the peg to which. */
    static void bar(TowerBench b, int... pairs) {
        for (int pair : pairs) {
            b.allow(pair / 10, pair % 10, false);
        }
    }

    static void allow(TowerBench b, int... pairs) {
        for (int pair : pairs) {
            b.allow(pair / 10, pair % 10, true);
        }
    }

    static void barAll(TowerBench b) {
        for (int from = 0; from < b.pegs(); from++) {
            for (int to = 0; to < b.pegs(); to++) {
                if (from != to) {
                    b.allow(from, to, false);
                }
            }
        }
    }

    /** Puts the disk d onto the peg that stands at d. */
    static void put(TowerBench b, int... pegs) {
        for (int d = 0; d < pegs.length; d++) {
            b.put(d, pegs[d]);
        }
    }

    static void aim(TowerBench b, int... pegs) {
        for (int d = 0; d < pegs.length; d++) {
            b.aim(d, pegs[d]);
        }
    }

    static void colour(TowerBench b, int... colours) {
        for (int d = 0; d < colours.length; d++) {
            b.setColour(d, colours[d]);
        }
    }

    static void move(TowerBench b, int... moves) {
        for (int move : moves) {
            b.move(move / 10, move % 10);
        }
    }

    /** Moves the disk 0 to and fro between the pegs 0 and 1; it begins on the peg 0. */
    static void shuttle(TowerBench b, int moves) {
        for (int k = 0; k < moves; k++) {
            b.move(k % 2, 1 - k % 2);
        }
    }

    static int power(int base, int exponent) {
        int product = 1;
        for (int k = 0; k < exponent; k++) {
            product *= base;
        }
        return product;
    }

    /**
     * Numbers that are none of 0 to count - 1: the two beside them, far ones, and such as come to
     * be one of them, or an index that there is, in a byte, in a short, or times 3, 4, 5 or 21.
     */
    static int[] noneOf(int count) {
        return new int[] {
            -1, count, -2, count + 1, -count, 2 * count, 100, 127, 128, 255, 256, 257, -256, 65535, 65536, 65537,
            -65536, 1 << 30, (1 << 30) + 1, -(1 << 30), 858993459, 858993460, -858993459, 1431655765, 1431655766,
            204522252, 204522253, 1 << 31, (1 << 31) + 1, Integer.MAX_VALUE, Integer.MAX_VALUE - 1,
        };
    }

    /** 4 pegs and 3 disks with a goal, bars and colours of their own, the rule on, and three moves. */
    static TowerBench busy() {
        TowerBench b = bench(4, 3);
        colour(b, 0, 1, 0);
        b.setRule(true);
        aim(b, 1, 1, 3);
        b.put(2, 2);
        move(b, 1, 13, 1);
        bar(b, 30, 12);
        return b;
    }

    /** Like busy(), but the start was laid behind the moves. */
    static TowerBench laid() {
        TowerBench b = busy();
        b.layStart();
        return b;
    }

    /** 5 pegs, 6 disks, no rule, and neither a way from now nor from the start. */
    static TowerBench wide() {
        TowerBench b = bench(5, 6);
        b.put(3, 3);
        move(b, 4, 2, 42);
        bar(b, 4, 14, 24, 34, 40, 43);
        return b;
    }

    /** Three moves were made, and the rule came on when two disks of one colour lay on each other. */
    static TowerBench unlawful() {
        TowerBench b = bench(3, 3);
        colour(b, 1, 1, 0);
        move(b, 2, 1, 21);
        b.setRule(true);
        return b;
    }

    /** All that can be seen of a bench; the moves are taken back for it, so it is asked once, last. */
    static String told(TowerBench b) {
        StringBuilder text = new StringBuilder();
        looks(b, text);
        ways(b, text);
        settings(b, text);
        text.append(" trail");
        while (b.moves() > 0) {
            text.append(' ').append(b.takeBack()).append(':').append(b.arrangement());
        }
        return text.toString();
    }

    private static void looks(TowerBench b, StringBuilder text) {
        text.append(b.pegs()).append(" pegs ").append(b.disks()).append(" disks ");
        text.append(b.moves()).append(" moves, now ").append(b.arrangement());
        text.append(" goal ").append(b.goal()).append(" lawful ").append(b.isLawful()).append(" pegs");
        for (int d = 0; d < b.disks(); d++) {
            text.append(' ').append(b.pegOf(d));
        }
        text.append(" tops");
        for (int peg = 0; peg < b.pegs(); peg++) {
            text.append(' ').append(b.top(peg));
        }
        text.append(" possible");
        for (int from = 0; from < b.pegs(); from++) {
            for (int to = 0; to < b.pegs(); to++) {
                text.append(b.canMove(from, to) ? " " + from + to : "");
            }
        }
    }

    private static void ways(TowerBench b, StringBuilder text) {
        text.append(" way ").append(b.way()).append(" by disks ").append(answer(b, TowerBench::wayByDisks));
        text.append(" lost ").append(answer(b, TowerBench::lost)).append(" next ").append(b.next());
        text.append(" reachable ").append(b.reachable());
    }

    /** What is set can be seen only by setting it, so it is set back at once. */
    private static void settings(TowerBench b, StringBuilder text) {
        boolean rule = b.setRule(false);
        b.setRule(rule);
        text.append(" rule ").append(rule).append(" colours");
        for (int d = 0; d < b.disks(); d++) {
            int colour = b.setColour(d, 0);
            b.setColour(d, colour);
            text.append(' ').append(colour);
        }
        text.append(" allowed");
        for (int from = 0; from < b.pegs(); from++) {
            for (int to = 0; to < b.pegs(); to++) {
                if (from != to) {
                    boolean allowed = b.allow(from, to, true);
                    b.allow(from, to, allowed);
                    text.append(allowed ? " " + from + to : "");
                }
            }
        }
    }

    private static String answer(TowerBench b, Function<TowerBench, Integer> call) {
        try {
            return "" + call.apply(b);
        } catch (IllegalStateException e) {
            return "none";
        }
    }

    /** Of two benches made alike one is asked, and nothing that is seen of them may differ then. */
    static void dueUnchanged(String call, Supplier<TowerBench> made, Function<TowerBench, ?> asked) {
        TowerBench one = made.get();
        try {
            asked.apply(one);
        } catch (IndexOutOfBoundsException | IllegalStateException | IllegalArgumentException e) {
            // The call may be a refused one; what it throws is tested apart.
        }
        dueText("what is seen behind " + call, told(one), told(made.get()));
    }

    static void dueRefused(String call, Class<? extends RuntimeException> want, Supplier<TowerBench> made,
            Function<TowerBench, ?> asked) {
        TowerBench one = made.get();
        dueThrow(call, want, () -> asked.apply(one));
        dueText("what is seen behind the refused " + call, told(one), told(made.get()));
    }
}
