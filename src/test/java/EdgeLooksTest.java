/** The sentences of the promises 11 to 19 that name an edge, each with a test of its own. */
public final class EdgeLooksTest extends Edge {
    public static void main(String[] args) {
        start("EdgeLooksTest");
        test(EdgeLooksTest::numberOfPegs);
        test(EdgeLooksTest::numberOfDisks);
        test(EdgeLooksTest::numberOfMoves);
        test(EdgeLooksTest::pegOfADisk);
        test(EdgeLooksTest::pegOfThrows);
        test(EdgeLooksTest::topOfAPeg);
        test(EdgeLooksTest::topOfAnEmptyPeg);
        test(EdgeLooksTest::topThrows);
        test(EdgeLooksTest::numberOfNow);
        test(EdgeLooksTest::numberOfTheGoal);
        test(EdgeLooksTest::lawful);
        test(EdgeLooksTest::canMove);
        test(EdgeLooksTest::canMoveButForTheNumber);
        test(EdgeLooksTest::canMoveToTheSame);
        test(EdgeLooksTest::canMoveThrows);
        test(EdgeLooksTest::nothingIsChanged);
        end();
    }

    private static void numberOfPegs() {
        sentence("Promise 11: Returns the number of pegs");
        TowerBench b = new TowerBench();
        for (int p : new int[] {5, 3, 4, 3, 5}) {
            b.begin(p, 6);
            due("pegs()", b.pegs(), p);
        }
        dueThrow("begin(2, 6)", ARGUMENT, () -> b.begin(2, 6));
        dueThrow("begin(3, 7)", ARGUMENT, () -> b.begin(3, 7));
        due("pegs() behind refused calls", b.pegs(), 5);
    }

    private static void numberOfDisks() {
        sentence("Promise 12: Returns the number of disks");
        TowerBench b = new TowerBench();
        for (int n : new int[] {6, 1, 2, 3, 4, 5, 1, 6}) {
            b.begin(4, n);
            due("disks()", b.disks(), n);
        }
        dueThrow("begin(4, 0)", ARGUMENT, () -> b.begin(4, 0));
        dueThrow("begin(6, 1)", ARGUMENT, () -> b.begin(6, 1));
        due("disks() behind refused calls", b.disks(), 6);
    }

    private static void numberOfMoves() {
        sentence("Promise 13: Returns how many moves were made");
        TowerBench b = new TowerBench();
        due("moves() of none", b.moves(), 0);
        for (int k = 0; k < 250; k++) {
            b.move(k % 2, 1 - k % 2);
            due("moves()", b.moves(), k + 1);
        }
        TowerBench full = new TowerBench();
        shuttle(full, 500);
        due("moves() of 500", full.moves(), 500);
        full.begin(3, 3);
        due("moves() of a bench begun anew", full.moves(), 0);
        TowerBench refused = new TowerBench();
        dueThrow("a move that is not possible", STATE, () -> refused.move(1, 0));
        due("moves() behind a refused one", refused.moves(), 0);
        refused.put(0, 1);
        due("moves() behind a disk that was put", refused.moves(), 0);
        refused.move(1, 1 + 1);
        refused.move(2, 1);
        due("moves() behind moves to and fro", refused.moves(), 2);
    }

    private static void pegOfADisk() {
        sentence("Promise 14: Returns the peg of a disk in the arrangement of now");
        for (int p = 3; p <= 5; p++) {
            TowerBench b = bench(p, 6);
            for (int d = 0; d < 6; d++) {
                for (int peg = 0; peg < p; peg++) {
                    b.put(d, peg);
                    for (int other = 0; other < 6; other++) {
                        due("pegOf(" + other + ")", b.pegOf(other), other < d ? p - 1 : other == d ? peg : 0);
                    }
                }
            }
        }
        TowerBench b = bench(5, 2);
        move(b, 4, 3, 42);
        due("pegOf(0) behind its second move", b.pegOf(0), 2);
        due("pegOf(1) behind its move", b.pegOf(1), 3);
        b.takeBack();
        due("pegOf(0) when it is taken back", b.pegOf(0), 4);
        b.aim(1, 0);
        due("pegOf(1) behind aim(1, 0)", b.pegOf(1), 3);
    }

    private static void pegOfThrows() {
        sentence("Promise 14: Throws IndexOutOfBoundsException if there is no such disk");
        for (int n = 1; n <= 6; n++) {
            TowerBench b = bench(3, 6);
            b.begin(4, n);
            for (int disk : noneOf(n)) {
                dueThrow("pegOf(" + disk + ")", INDEX, () -> b.pegOf(disk));
            }
            due("pegOf(" + (n - 1) + ")", b.pegOf(n - 1), 0);
        }
    }

    private static void topOfAPeg() {
        sentence("Promise 15: Returns the top disk of a peg in the arrangement of now");
        TowerBench b = bench(5, 6);
        put(b, 4, 3, 3, 0, 0, 0);
        due("top(0)", b.top(0), 3);
        due("top(3)", b.top(3), 1);
        due("top(4), the last peg", b.top(4), 0);
        b.move(3, 2);
        due("top(3) behind a move from it", b.top(3), 2);
        due("top(2) behind a move to it", b.top(2), 1);
        b.takeBack();
        due("top(3) when it is taken back", b.top(3), 1);
        put(b, 4, 4, 4, 4, 4, 1);
        due("top(1), the largest disk", b.top(1), 5);
        due("top(4), all the others", b.top(4), 0);
    }

    private static void topOfAnEmptyPeg() {
        sentence("Promise 15: Returns the disk; -1 if the peg is empty");
        for (int p = 3; p <= 5; p++) {
            for (int n = 1; n <= 6; n++) {
                TowerBench b = bench(p, n);
                for (int peg = 1; peg < p; peg++) {
                    due("top(" + peg + ")", b.top(peg), -1);
                }
                due("top(0)", b.top(0), 0);
            }
        }
        TowerBench b = bench(3, 1);
        b.move(0, 2);
        due("top(0) of a peg that was left", b.top(0), -1);
        due("top(1) of a peg that never had one", b.top(1), -1);
        b.takeBack();
        due("top(2) of a peg from which it was taken back", b.top(2), -1);
        due("top(0) of the peg to which it was taken back", b.top(0), 0);
    }

    private static void topThrows() {
        sentence("Promise 15: Throws IndexOutOfBoundsException if there is no such peg");
        for (int p = 3; p <= 5; p++) {
            TowerBench b = bench(5, 6);
            b.begin(p, 6);
            for (int peg : noneOf(p)) {
                dueThrow("top(" + peg + ")", INDEX, () -> b.top(peg));
            }
            due("top(" + (p - 1) + ")", b.top(p - 1), -1);
        }
    }

    private static void numberOfNow() {
        sentence("Promise 16: Returns the number of the arrangement of now");
        for (int p = 3; p <= 5; p++) {
            TowerBench b = new TowerBench();
            for (int number = 0; number < p * p * p; number++) {
                if (number % 64 == 0) {
                    b = bench(p, 3);
                }
                put(b, number % p, number / p % p, number / p / p);
                due("arrangement()", b.arrangement(), number);
                due("goal() stays", b.goal(), p * p * p - 1);
            }
        }
        TowerBench b = bench(5, 6);
        put(b, 4, 4, 4, 4, 4, 4);
        due("the highest of all", b.arrangement(), 15624);
        b.move(4, 0);
        due("the lowest disk moved", b.arrangement(), 15620);
        b.takeBack();
        put(b, 3, 3, 3, 3, 3, 4);
        b.move(4, 0);
        due("the highest disk moved", b.arrangement(), 3 * 781);
    }

    private static void numberOfTheGoal() {
        sentence("Promise 17: Returns the number of the goal");
        for (int p = 3; p <= 5; p++) {
            TowerBench b = new TowerBench();
            for (int number = 0; number < p * p * p; number++) {
                if (number % 64 == 0) {
                    b = bench(p, 3);
                }
                aim(b, number % p, number / p % p, number / p / p);
                due("goal()", b.goal(), number);
                due("arrangement() stays", b.arrangement(), 0);
            }
        }
        TowerBench b = bench(3, 3);
        move(b, 2, 1);
        due("goal() behind moves", b.goal(), 26);
        b.layStart();
        due("goal() behind the start", b.goal(), 26);
    }

    private static void lawful() {
        sentence("Promise 18: Tells whether the arrangement of now is lawful");
        TowerBench b = bench(3, 2);
        b.setRule(true);
        due("one colour on each other", b.isLawful(), false);
        b.put(1, 2);
        due("apart, the goal not being lawful", b.isLawful(), true);
        b.setColour(0, 1);
        b.put(0, 2);
        due("two colours on each other", b.isLawful(), true);
        b.setColour(0, 0);
        due("one colour on each other, at the goal", b.isLawful(), false);
        TowerBench one = bench(3, 1);
        one.setRule(true);
        due("one disk alone", one.isLawful(), true);
        barAll(one);
        due("one disk that can't move", one.isLawful(), true);
        for (int colours = 0; colours < 8; colours++) {
            TowerBench three = bench(3, 3);
            colour(three, colours & 1, colours >> 1 & 1, colours >> 2);
            three.setRule(true);
            due("a tower of the colours " + colours, three.isLawful(), colours == 2 || colours == 5);
        }
    }

    private static void canMove() {
        sentence("Promise 19: Tells whether a move is possible now");
        TowerBench b = busy();
        due("from an empty peg", b.canMove(0, 1), false);
        due("onto a smaller disk", b.canMove(1, 3), false);
        due("barred, to the empty peg", b.canMove(3, 0), false);
        due("barred, onto a larger disk", b.canMove(1, 2), false);
        due("onto the same colour", b.canMove(3, 2), false);
        due("onto the other colour", b.canMove(3, 1), true);
        due("the largest one to the empty peg", b.canMove(2, 0), true);
        TowerBench u = unlawful();
        due("two of a colour stay on each other", u.canMove(0, 2), false);
        due("two of a colour are taken apart, to the empty peg", u.canMove(1, 2), true);
        due("two of a colour are taken apart, onto another one", u.canMove(1, 0), true);
    }

    private static void canMoveButForTheNumber() {
        sentence("Promise 19: but for the number of moves that were made");
        TowerBench b = new TowerBench();
        shuttle(b, 500);
        due("canMove(0, 1) behind 500 moves", b.canMove(0, 1), true);
        due("canMove(0, 2) behind 500 moves", b.canMove(0, 2), true);
        due("canMove(1, 0) behind 500 moves, from an empty peg", b.canMove(1, 0), false);
        dueThrow("move(0, 1) behind 500 moves", STATE, () -> b.move(0, 1));
    }

    private static void canMoveToTheSame() {
        sentence("Promise 19: Returns whether it is; false if both are the same");
        for (int p = 3; p <= 5; p++) {
            TowerBench b = bench(p, 6);
            for (int peg = 0; peg < p; peg++) {
                due("canMove from a peg to itself", b.canMove(peg, peg), false);
            }
            b.move(0, p - 1);
            due("canMove from a peg with one disk to itself", b.canMove(p - 1, p - 1), false);
        }
    }

    private static void canMoveThrows() {
        sentence("Promise 19: Throws IndexOutOfBoundsException if there is no such peg");
        for (int p = 3; p <= 5; p++) {
            TowerBench b = bench(p, 3);
            for (int peg : noneOf(p)) {
                int last = p - 1;
                dueThrow("canMove(" + peg + ", " + last + ")", INDEX, () -> b.canMove(peg, last));
                dueThrow("canMove(0, " + peg + ")", INDEX, () -> b.canMove(0, peg));
                dueThrow("canMove(" + peg + ", " + peg + ")", INDEX, () -> b.canMove(peg, peg));
            }
            due("canMove(0, " + (p - 1) + "), the last peg", b.canMove(0, p - 1), true);
        }
    }

    private static void nothingIsChanged() {
        sentence("what there is; nothing from here on changes anything");
        dueUnchanged("pegs()", EdgeLooksTest::busy, b -> b.pegs());
        dueUnchanged("disks()", EdgeLooksTest::busy, b -> b.disks());
        dueUnchanged("moves()", EdgeLooksTest::busy, b -> b.moves());
        dueUnchanged("pegOf(2)", EdgeLooksTest::busy, b -> b.pegOf(2));
        dueUnchanged("top(0)", EdgeLooksTest::busy, b -> b.top(0));
        dueUnchanged("arrangement()", EdgeLooksTest::busy, b -> b.arrangement());
        dueUnchanged("goal()", EdgeLooksTest::busy, b -> b.goal());
        dueUnchanged("isLawful()", EdgeLooksTest::busy, b -> b.isLawful());
        dueUnchanged("canMove(3, 1)", EdgeLooksTest::busy, b -> b.canMove(3, 1));
        dueUnchanged("way()", EdgeLooksTest::busy, b -> b.way());
        dueUnchanged("wayByDisks()", TowerBench::new, b -> b.wayByDisks());
        dueUnchanged("lost()", EdgeLooksTest::busy, b -> b.lost());
        dueUnchanged("next()", EdgeLooksTest::busy, b -> b.next());
        dueUnchanged("reachable()", EdgeLooksTest::busy, b -> b.reachable());
        dueUnchanged("reachable() of what is not lawful", EdgeLooksTest::unlawful, b -> b.reachable());
        dueUnchanged("splits(20, 5)", EdgeLooksTest::busy, b -> b.splits(20, 5));
    }
}
