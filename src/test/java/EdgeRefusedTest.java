import java.util.function.Function;
import java.util.function.Supplier;

/** What the terms say of refused calls: they change nothing, and the exception named first is thrown. */
public final class EdgeRefusedTest extends Edge {
    public static void main(String[] args) {
        start("EdgeRefusedTest");
        test(() -> nothingChanged("a new object", TowerBench::new));
        test(() -> nothingChanged("a bench in the midst of moves", EdgeRefusedTest::busy));
        test(() -> nothingChanged("a bench whose start was laid", EdgeRefusedTest::laid));
        test(() -> nothingChanged("the largest bench", EdgeRefusedTest::wide));
        test(() -> nothingChanged("an arrangement that is not lawful", EdgeRefusedTest::unlawful));
        test(EdgeRefusedTest::nothingChangedByState);
        test(EdgeRefusedTest::nothingChangedAtTheLimit);
        test(EdgeRefusedTest::nothingForgotten);
        test(EdgeRefusedTest::putFirst);
        test(EdgeRefusedTest::allowFirst);
        test(EdgeRefusedTest::colourFirst);
        test(EdgeRefusedTest::moveFirst);
        test(EdgeRefusedTest::moveFirstAtTheLimit);
        end();
    }

    /** The calls that each bench refuses. */
    private static void nothingChanged(String on, Supplier<TowerBench> made) {
        sentence("A call that throws an exception changes nothing (" + on + ")");
        int p = made.get().pegs();
        int n = made.get().disks();
        dueRefused("begin(2, 1)", ARGUMENT, made, b -> b.begin(2, 1));
        dueRefused("begin(6, 6)", ARGUMENT, made, b -> b.begin(6, 6));
        dueRefused("begin(3, 0)", ARGUMENT, made, b -> b.begin(3, 0));
        dueRefused("begin(5, 7)", ARGUMENT, made, b -> b.begin(5, 7));
        for (int disk : new int[] {-1, n}) {
            dueRefused("put(" + disk + ", 1)", INDEX, made, b -> b.put(disk, 1));
            dueRefused("aim(" + disk + ", 1)", INDEX, made, b -> b.aim(disk, 1));
            dueRefused("setColour(" + disk + ", 1)", INDEX, made, b -> b.setColour(disk, 1));
            dueRefused("pegOf(" + disk + ")", INDEX, made, b -> b.pegOf(disk));
        }
        for (int peg : new int[] {-1, p}) {
            dueRefused("put(0, " + peg + ")", INDEX, made, b -> b.put(0, peg));
            dueRefused("aim(0, " + peg + ")", INDEX, made, b -> b.aim(0, peg));
            dueRefused("allow(" + peg + ", 0, false)", INDEX, made, b -> b.allow(peg, 0, false));
            dueRefused("allow(0, " + peg + ", false)", INDEX, made, b -> b.allow(0, peg, false));
            dueRefused("move(" + peg + ", 0)", INDEX, made, b -> b.move(peg, 0));
            dueRefused("move(0, " + peg + ")", INDEX, made, b -> b.move(0, peg));
            dueRefused("top(" + peg + ")", INDEX, made, b -> b.top(peg));
            dueRefused("canMove(" + peg + ", 0)", INDEX, made, b -> b.canMove(peg, 0));
            dueRefused("canMove(0, " + peg + ")", INDEX, made, b -> b.canMove(0, peg));
        }
        dueRefused("allow(0, 0, false)", ARGUMENT, made, b -> b.allow(0, 0, false));
        dueRefused("allow(2, 2, true)", ARGUMENT, made, b -> b.allow(2, 2, true));
        dueRefused("setColour(0, 2)", ARGUMENT, made, b -> b.setColour(0, 2));
        dueRefused("setColour(0, -1)", ARGUMENT, made, b -> b.setColour(0, -1));
        dueRefused("splits(21, 3)", ARGUMENT, made, b -> b.splits(21, 3));
        dueRefused("splits(20, 6)", ARGUMENT, made, b -> b.splits(20, 6));
        dueRefused("move(1, 1)", STATE, made, b -> b.move(1, 1));
    }

    private static void nothingChangedByState() {
        sentence("A call that throws an exception changes nothing");
        dueRefused("put behind moves", STATE, EdgeRefusedTest::busy, b -> b.put(0, 0));
        dueRefused("put of another disk behind moves", STATE, EdgeRefusedTest::wide, b -> b.put(5, 4));
        dueRefused("takeBack() on a new object", STATE, TowerBench::new, b -> b.takeBack());
        dueRefused("takeBack() behind the start", STATE, EdgeRefusedTest::laid, b -> b.takeBack());
        dueRefused("wayByDisks() of four pegs", STATE, EdgeRefusedTest::busy, b -> b.wayByDisks());
        dueRefused("wayByDisks() of five pegs", STATE, EdgeRefusedTest::wide, b -> b.wayByDisks());
        dueRefused("wayByDisks() with the rule", STATE, EdgeRefusedTest::unlawful, b -> b.wayByDisks());
        dueRefused("lost() without ways", STATE, EdgeRefusedTest::wide, b -> b.lost());
        dueRefused("lost() of what is not lawful", STATE, EdgeRefusedTest::unlawful, b -> b.lost());
    }

    private static void nothingChangedAtTheLimit() {
        sentence("A call that throws an exception changes nothing");
        TowerBench b = new TowerBench();
        shuttle(b, 500);
        dueThrow("move(0, 1)", STATE, () -> b.move(0, 1));
        dueThrow("put(0, 2)", STATE, () -> b.put(0, 2));
        due("moves()", b.moves(), 500);
        due("arrangement()", b.arrangement(), 0);
        due("lost()", b.lost(), 500);
        due("takeBack()", b.takeBack(), 499);
        due("arrangement()", b.arrangement(), 1);
        due("takeBack()", b.takeBack(), 498);
        due("arrangement()", b.arrangement(), 0);
    }

    /** The ways were asked for ahead of the refused calls, so that what is kept of them is looked at too. */
    private static void nothingForgotten() {
        sentence("A call that throws an exception changes nothing");
        TowerBench b = bench(3, 2);
        b.setColour(1, 1);
        due("way()", b.way(), 3);
        Runnable[] refused = {
            () -> b.begin(3, 7), () -> b.put(0, 3), () -> b.aim(2, 1), () -> b.aim(0, 3), () -> b.aim(0, -1),
            () -> b.allow(0, 3, false), () -> b.allow(0, 0, false), () -> b.setColour(0, 2), () -> b.move(1, 0),
        };
        for (int k = 0; k < refused.length; k++) {
            Class<? extends RuntimeException> want = k == 8 ? STATE : k == 0 || k == 6 || k == 7 ? ARGUMENT : INDEX;
            dueThrow("the refused call " + k, want, refused[k]);
            due("way()", b.way(), 3);
            due("next()", b.next(), 1);
            due("goal()", b.goal(), 8);
            due("lost()", b.lost(), 0);
            due("reachable()", b.reachable(), 9);
        }
    }

    private static void putFirst() {
        first("put(3, 3) behind moves", INDEX, b -> b.put(3, 3));
        first("put(0, 4) behind moves", INDEX, b -> b.put(0, 4));
        first("put(-1, -1) behind moves", INDEX, b -> b.put(-1, -1));
        first("put(2, 3) behind moves", STATE, b -> b.put(2, 3));
    }

    private static void allowFirst() {
        first("allow(4, 4, false)", INDEX, b -> b.allow(4, 4, false));
        first("allow(-1, -1, true)", INDEX, b -> b.allow(-1, -1, true));
        first("allow(3, 3, false)", ARGUMENT, b -> b.allow(3, 3, false));
    }

    private static void colourFirst() {
        first("setColour(3, 2)", INDEX, b -> b.setColour(3, 2));
        first("setColour(-1, -1)", INDEX, b -> b.setColour(-1, -1));
        first("setColour(2, 2)", ARGUMENT, b -> b.setColour(2, 2));
    }

    private static void moveFirst() {
        first("move(4, 4), both the same", INDEX, b -> b.move(4, 4));
        first("move(0, 4), from an empty peg", INDEX, b -> b.move(0, 4));
        first("move(-1, 0), to the empty peg", INDEX, b -> b.move(-1, 0));
        first("move(0, 3), from an empty peg", STATE, b -> b.move(0, 3));
    }

    private static void first(String call, Class<? extends RuntimeException> want, Function<TowerBench, ?> asked) {
        sentence("If several exceptions apply, the one that is named first in the throws clause is thrown");
        dueRefused(call, want, EdgeRefusedTest::busy, asked);
    }

    private static void moveFirstAtTheLimit() {
        sentence("If several exceptions apply, the one that is named first in the throws clause is thrown");
        TowerBench b = new TowerBench();
        shuttle(b, 500);
        dueThrow("move(3, 0) behind 500 moves", INDEX, () -> b.move(3, 0));
        dueThrow("move(0, -1) behind 500 moves", INDEX, () -> b.move(0, -1));
        dueThrow("put(3, 0) behind 500 moves", INDEX, () -> b.put(3, 0));
        dueThrow("move(0, 1) behind 500 moves", STATE, () -> b.move(0, 1));
        dueThrow("move(1, 1) behind 500 moves", STATE, () -> b.move(1, 1));
        due("moves()", b.moves(), 500);
    }
}
