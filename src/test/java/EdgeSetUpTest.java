/** The sentences of the promises 1 to 7 that name an edge, each with a test of its own. */
public final class EdgeSetUpTest extends Edge {
    public static void main(String[] args) {
        start("EdgeSetUpTest");
        test(EdgeSetUpTest::newObject);
        test(EdgeSetUpTest::objectsApart);
        test(EdgeSetUpTest::beginRange);
        test(EdgeSetUpTest::beginSettings);
        test(EdgeSetUpTest::beginReturns);
        test(EdgeSetUpTest::beginThrows);
        test(EdgeSetUpTest::putReturns);
        test(EdgeSetUpTest::putThrowsIndex);
        test(EdgeSetUpTest::putThrowsState);
        test(EdgeSetUpTest::aimReturns);
        test(EdgeSetUpTest::aimThrows);
        test(EdgeSetUpTest::aimBehindMoves);
        test(EdgeSetUpTest::allowReturns);
        test(EdgeSetUpTest::allowThrowsIndex);
        test(EdgeSetUpTest::allowThrowsArgument);
        test(EdgeSetUpTest::colourReturns);
        test(EdgeSetUpTest::colourThrowsIndex);
        test(EdgeSetUpTest::colourThrowsArgument);
        test(EdgeSetUpTest::ruleReturns);
        end();
    }

    private static void newObject() {
        sentence("Promise 1: A bench of 3 pegs and 3 disks");
        due("pegs()", new TowerBench().pegs(), 3);
        due("disks()", new TowerBench().disks(), 3);
        due("reachable()", new TowerBench().reachable(), 27);
        due("top(2), the last peg", new TowerBench().top(2), -1);
        dueThrow("top(3)", INDEX, () -> new TowerBench().top(3));
        due("pegOf(2), the last disk", new TowerBench().pegOf(2), 0);
        dueThrow("pegOf(3)", INDEX, () -> new TowerBench().pegOf(3));
        dueText("what is seen of a new object", told(new TowerBench()), told(bench(3, 3)));
    }

    private static void objectsApart() {
        sentence("Promise 1: A bench of 3 pegs and 3 disks");
        TowerBench one = new TowerBench();
        TowerBench other = busy();
        dueText("one object, behind what was done to another", told(one), told(new TowerBench()));
        dueText("the other object", told(other), told(busy()));
    }

    private static void beginRange() {
        sentence("Promise 2: pegs: 3 to 5, disks: 1 to 6");
        for (int p = 3; p <= 5; p++) {
            for (int n = 1; n <= 6; n++) {
                TowerBench b = bench(p, n);
                due("pegs() of " + p, b.pegs(), p);
                due("disks() of " + n, b.disks(), n);
                due("reachable()", b.reachable(), power(p, n));
            }
        }
    }

    private static void beginSettings() {
        sentence("Promise 2: all moves are allowed, all colours are 0, the rule of colours is off");
        for (int p = 3; p <= 5; p++) {
            for (int n = 1; n <= 6; n++) {
                TowerBench b = bench(5, 6);
                barAll(b);
                colour(b, 1, 1, 1, 1, 1, 1);
                b.setRule(true);
                b.begin(p, n);
                dueText("begin(" + p + ", " + n + ") behind other settings", told(b), told(bench(p, n)));
            }
        }
        TowerBench moved = new TowerBench();
        shuttle(moved, 500);
        moved.begin(3, 3);
        due("moves() when a bench is begun behind 500 moves", moved.moves(), 0);
        due("a move then", moved.move(0, 1), 0);
        due("takeBack() of it", moved.takeBack(), 0);
        dueThrow("takeBack() of the moves before", STATE, () -> moved.takeBack());
        TowerBench back = bench(5, 6);
        barAll(back);
        colour(back, 1, 1, 1, 1, 1, 1);
        back.begin(3, 1);
        back.begin(5, 6);
        dueText("the settings of pegs and disks that a smaller bench lacked", told(back), told(bench(5, 6)));
        TowerBench asked = bench(4, 4);
        due("way()", asked.way(), 9);
        asked.begin(3, 4);
        due("way() of a bench begun anew", asked.way(), 15);
    }

    private static void beginReturns() {
        sentence("Promise 2: Returns how many arrangements there are");
        int[][] counts = {{3, 9, 27, 81, 243, 729}, {4, 16, 64, 256, 1024, 4096}, {5, 25, 125, 625, 3125, 15625}};
        TowerBench b = new TowerBench();
        for (int p = 3; p <= 5; p++) {
            for (int n = 1; n <= 6; n++) {
                due("begin(" + p + ", " + n + ")", b.begin(p, n), counts[p - 3][n - 1]);
                due("begin(" + p + ", " + n + ") again", b.begin(p, n), counts[p - 3][n - 1]);
            }
        }
    }

    private static void beginThrows() {
        sentence("Promise 2: Throws IllegalArgumentException if pegs or disks is out of range");
        int[] noPegs = {2, 6, 1, 0, -1, -3, -4, -5, 7, 259, 260, 65539, -253, 1 << 30, (1 << 31) + 3,
            Integer.MAX_VALUE, Integer.MIN_VALUE};
        int[] noDisks = {0, 7, -1, -2, -6, 8, 257, 262, 65537, -255, 1 << 30, (1 << 31) + 1, Integer.MAX_VALUE,
            Integer.MIN_VALUE};
        TowerBench b = bench(4, 2);
        for (int p : noPegs) {
            dueThrow("begin(" + p + ", 1)", ARGUMENT, () -> b.begin(p, 1));
            dueThrow("begin(" + p + ", 6)", ARGUMENT, () -> b.begin(p, 6));
            for (int n : new int[] {0, 7}) {
                dueThrow("begin(" + p + ", " + n + ")", ARGUMENT, () -> b.begin(p, n));
            }
        }
        for (int n : noDisks) {
            for (int p = 3; p <= 5; p++) {
                int pegs = p;
                dueThrow("begin(" + p + ", " + n + ")", ARGUMENT, () -> b.begin(pegs, n));
            }
        }
        dueText("what is seen of the bench that was there", told(b), told(bench(4, 2)));
    }

    private static void putReturns() {
        sentence("Promise 3: Returns the peg before");
        for (int p = 3; p <= 5; p++) {
            for (int d = 0; d < 6; d++) {
                TowerBench b = bench(p, 6);
                int disk = d;
                due("put(" + d + ", 0) where it is", b.put(disk, 0), 0);
                due("put on the last peg", b.put(disk, p - 1), 0);
                due("put where it is", b.put(disk, p - 1), p - 1);
                due("put on the peg 1", b.put(disk, 1), p - 1);
                due("put on the peg 0", b.put(disk, 0), 1);
                dueText("what is seen when it is back", told(b), told(bench(p, 6)));
            }
        }
    }

    private static void putThrowsIndex() {
        sentence("Promise 3: Throws IndexOutOfBoundsException if there is no such disk or peg");
        TowerBench b = bench(4, 3);
        for (int disk : noneOf(3)) {
            dueThrow("put(" + disk + ", 3)", INDEX, () -> b.put(disk, 3));
            dueThrow("put(" + disk + ", 4)", INDEX, () -> b.put(disk, 4));
        }
        for (int peg : noneOf(4)) {
            dueThrow("put(2, " + peg + ")", INDEX, () -> b.put(2, peg));
        }
        due("put of the last disk on the last peg", b.put(2, 3), 0);
    }

    private static void putThrowsState() {
        sentence("Promise 3: Throws IllegalStateException if a move was made");
        TowerBench b = new TowerBench();
        b.move(0, 1);
        dueThrow("put behind one move", STATE, () -> b.put(0, 2));
        dueThrow("put where it is", STATE, () -> b.put(2, 0));
        b.move(1, 0);
        dueThrow("put behind two moves that end at the start", STATE, () -> b.put(0, 2));
        TowerBench full = new TowerBench();
        shuttle(full, 500);
        dueThrow("put behind 500 moves", STATE, () -> full.put(0, 2));
        due("layStart()", full.layStart(), 500);
        due("put behind it", full.put(0, 2), 0);
    }

    private static void aimReturns() {
        sentence("Promise 4: Returns the peg before");
        for (int p = 3; p <= 5; p++) {
            for (int d = 0; d < 6; d++) {
                TowerBench b = bench(p, 6);
                due("aim where it is", b.aim(d, p - 1), p - 1);
                due("aim to the peg 0", b.aim(d, 0), p - 1);
                due("aim where it is", b.aim(d, 0), 0);
                due("aim to the peg 1", b.aim(d, 1), 0);
                due("aim to the last peg", b.aim(d, p - 1), 1);
                dueText("what is seen when it is back", told(b), told(bench(p, 6)));
            }
        }
    }

    private static void aimThrows() {
        sentence("Promise 4: Throws IndexOutOfBoundsException if there is no such disk or peg");
        TowerBench b = bench(4, 3);
        for (int disk : noneOf(3)) {
            dueThrow("aim(" + disk + ", 3)", INDEX, () -> b.aim(disk, 3));
            dueThrow("aim(" + disk + ", 4)", INDEX, () -> b.aim(disk, 4));
        }
        for (int peg : noneOf(4)) {
            dueThrow("aim(2, " + peg + ")", INDEX, () -> b.aim(2, peg));
        }
        due("aim of the last disk at the last peg", b.aim(2, 3), 3);
    }

    private static void aimBehindMoves() {
        sentence("Promise 4: Puts a disk of the goal onto a peg");
        TowerBench b = new TowerBench();
        move(b, 2, 1);
        due("aim behind moves", b.aim(0, 0), 2);
        due("goal()", b.goal(), 24);
        due("arrangement()", b.arrangement(), 2 + 3);
        due("moves()", b.moves(), 2);
        b.setRule(true);
        due("aim at what is not lawful", b.aim(1, 0), 2);
        due("goal()", b.goal(), 18);
        due("way()", b.way(), -1);
        b.setRule(false);
        due("way() without the rule", b.way(), 2 + 3);
        b.aim(0, 2);
        due("way() behind aim(0, 2)", b.way(), 4);
        TowerBench full = new TowerBench();
        shuttle(full, 500);
        due("aim behind 500 moves", full.aim(2, 0), 2);
        due("way() then", full.way(), 3);
    }

    private static void allowReturns() {
        sentence("Promise 5: Returns whether they were");
        for (int p = 3; p <= 5; p++) {
            for (int pair = 0; pair < p * p; pair++) {
                int from = pair / p;
                int to = pair % p;
                if (from != to) {
                    TowerBench b = bench(p, 2);
                    String call = "allow(" + from + ", " + to + ", ";
                    due(call + "true) at first", b.allow(from, to, true), true);
                    due(call + "false)", b.allow(from, to, false), true);
                    due(call + "false) again", b.allow(from, to, false), false);
                    due(call + "true)", b.allow(from, to, true), false);
                    due(call + "true) again", b.allow(from, to, true), true);
                    dueText("what is seen when it is allowed again", told(b), told(bench(p, 2)));
                }
            }
        }
    }

    private static void allowThrowsIndex() {
        sentence("Promise 5: Throws IndexOutOfBoundsException if there is no such peg");
        TowerBench b = bench(4, 3);
        for (int peg : noneOf(4)) {
            dueThrow("allow(" + peg + ", 3, false)", INDEX, () -> b.allow(peg, 3, false));
            dueThrow("allow(0, " + peg + ", false)", INDEX, () -> b.allow(0, peg, false));
        }
        dueText("what is seen then", told(b), told(bench(4, 3)));
        due("allow(0, 3, false), the last peg", b.allow(0, 3, false), true);
    }

    private static void allowThrowsArgument() {
        sentence("Promise 5: Throws IllegalArgumentException if both are the same");
        for (int p = 3; p <= 5; p++) {
            TowerBench b = bench(p, 3);
            for (int peg = 0; peg < p; peg++) {
                int same = peg;
                dueThrow("allow(" + peg + ", " + peg + ", false)", ARGUMENT, () -> b.allow(same, same, false));
                dueThrow("allow(" + peg + ", " + peg + ", true)", ARGUMENT, () -> b.allow(same, same, true));
            }
            dueText("what is seen then", told(b), told(bench(p, 3)));
        }
    }

    private static void colourReturns() {
        sentence("Promise 6: Returns the colour before");
        for (int d = 0; d < 6; d++) {
            TowerBench b = bench(3, 6);
            due("setColour(" + d + ", 0) at first", b.setColour(d, 0), 0);
            due("setColour(" + d + ", 1)", b.setColour(d, 1), 0);
            due("setColour(" + d + ", 1) again", b.setColour(d, 1), 1);
            for (int other = 0; other < 6; other++) {
                if (other != d) {
                    due("setColour(" + other + ", 0), another disk", b.setColour(other, 0), 0);
                }
            }
            due("setColour(" + d + ", 0)", b.setColour(d, 0), 1);
            dueText("what is seen then", told(b), told(bench(3, 6)));
        }
        TowerBench moved = new TowerBench();
        moved.move(0, 1);
        due("setColour(0, 1) behind a move", moved.setColour(0, 1), 0);
    }

    private static void colourThrowsIndex() {
        sentence("Promise 6: Throws IndexOutOfBoundsException if there is no such disk");
        TowerBench b = bench(4, 3);
        for (int disk : noneOf(3)) {
            dueThrow("setColour(" + disk + ", 1)", INDEX, () -> b.setColour(disk, 1));
        }
        dueText("what is seen then", told(b), told(bench(4, 3)));
        due("setColour(2, 1), the last disk", b.setColour(2, 1), 0);
    }

    private static void colourThrowsArgument() {
        sentence("Promise 6: Throws IllegalArgumentException if colour is out of range");
        TowerBench b = bench(4, 3);
        for (int colour : noneOf(2)) {
            dueThrow("setColour(0, " + colour + ")", ARGUMENT, () -> b.setColour(0, colour));
        }
        dueText("what is seen then", told(b), told(bench(4, 3)));
        due("setColour(0, 1)", b.setColour(0, 1), 0);
    }

    private static void ruleReturns() {
        sentence("Promise 7: Returns whether it was");
        TowerBench b = bench(3, 2);
        due("setRule(false) at first", b.setRule(false), false);
        due("setRule(true)", b.setRule(true), false);
        due("setRule(true) again", b.setRule(true), true);
        due("setRule(false)", b.setRule(false), true);
        due("setRule(false) again", b.setRule(false), false);
        dueText("what is seen then", told(b), told(bench(3, 2)));
        TowerBench moved = bench(3, 2);
        move(moved, 1, 2);
        due("setRule(true) behind moves", moved.setRule(true), false);
        due("moves()", moved.moves(), 2);
    }
}
