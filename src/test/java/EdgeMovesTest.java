/** The sentences of the promises 8 to 10 that name an edge, each with a test of its own. */
public final class EdgeMovesTest extends Edge {
    public static void main(String[] args) {
        start("EdgeMovesTest");
        test(EdgeMovesTest::moveReturns);
        test(EdgeMovesTest::moveThrowsIndex);
        test(EdgeMovesTest::moveNotPossible);
        test(EdgeMovesTest::moveFiveHundred);
        test(EdgeMovesTest::moveBehindFiveHundred);
        test(EdgeMovesTest::takeBackBarred);
        test(EdgeMovesTest::takeBackToTheUnlawful);
        test(EdgeMovesTest::takeBackReturns);
        test(EdgeMovesTest::takeBackThrows);
        test(EdgeMovesTest::layStartReturns);
        test(EdgeMovesTest::noMoveBehindTheStart);
        end();
    }

    private static void moveReturns() {
        sentence("Promise 8: Returns the disk that is moved");
        for (int d = 0; d < 6; d++) {
            TowerBench b = bench(3, 6);
            for (int smaller = 0; smaller < d; smaller++) {
                b.put(smaller, 1);
            }
            due("move(0, 2) with " + d + " on top", b.move(0, 2), d);
            due("its peg then", b.pegOf(d), 2);
            due("moves() then", b.moves(), 1);
        }
        TowerBench wide = bench(5, 1);
        due("move(0, 4), to the last peg", wide.move(0, 4), 0);
        due("move(4, 3), from it", wide.move(4, 3), 0);
        due("move(3, 0), to the first one", wide.move(3, 0), 0);
    }

    private static void moveThrowsIndex() {
        sentence("Promise 8: Throws IndexOutOfBoundsException if there is no such peg");
        TowerBench b = bench(4, 3);
        for (int peg : noneOf(4)) {
            dueThrow("move(" + peg + ", 3)", INDEX, () -> b.move(peg, 3));
            dueThrow("move(0, " + peg + ")", INDEX, () -> b.move(0, peg));
            dueThrow("move(" + peg + ", " + peg + ")", INDEX, () -> b.move(peg, peg));
        }
        dueText("what is seen then", told(b), told(bench(4, 3)));
        due("move(0, 3), to the last peg", b.move(0, 3), 0);
    }

    private static void moveNotPossible() {
        sentence("Promise 8: Throws IllegalStateException if the move is not possible, or 500 moves were made");
        for (int peg = 0; peg < 4; peg++) {
            int same = peg;
            dueRefused("move from a peg to itself", STATE, EdgeMovesTest::busy, b -> b.move(same, same));
        }
        dueRefused("move from an empty peg", STATE, EdgeMovesTest::busy, b -> b.move(0, 1));
        dueRefused("move onto a smaller disk", STATE, EdgeMovesTest::busy, b -> b.move(2, 3));
        dueRefused("move that is barred, to the empty peg", STATE, EdgeMovesTest::busy, b -> b.move(3, 0));
        dueRefused("move that is barred, onto a larger disk", STATE, EdgeMovesTest::busy, b -> b.move(1, 2));
        dueRefused("move onto a disk of the same colour", STATE, EdgeMovesTest::busy, b -> b.move(3, 2));
        dueRefused("move that leaves two of a colour", STATE, EdgeMovesTest::unlawful, b -> b.move(0, 2));
        TowerBench mends = unlawful();
        due("move that takes two of a colour apart", mends.move(1, 2), 0);
    }

    private static void moveFiveHundred() {
        sentence("Promise 8: Throws IllegalStateException if the move is not possible, or 500 moves were made");
        TowerBench b = new TowerBench();
        shuttle(b, 499);
        due("the move 500", b.move(1, 0), 0);
        dueThrow("the move 501", STATE, () -> b.move(0, 1));
        dueThrow("the move 501 to another peg", STATE, () -> b.move(0, 2));
        due("moves() then", b.moves(), 500);
        due("arrangement() then", b.arrangement(), 0);
        due("canMove(0, 1) then", b.canMove(0, 1), true);
        due("takeBack() then", b.takeBack(), 499);
        due("the arrangement ahead of the last move", b.arrangement(), 1);
    }

    private static void moveBehindFiveHundred() {
        sentence("Promise 8: Throws IllegalStateException if the move is not possible, or 500 moves were made");
        TowerBench b = new TowerBench();
        shuttle(b, 500);
        b.takeBack();
        due("the move 500 once more", b.move(1, 2), 0);
        dueThrow("the move 501", STATE, () -> b.move(2, 1));
        due("layStart()", b.layStart(), 500);
        due("the first move behind the start", b.move(2, 1), 0);
        due("moves()", b.moves(), 1);
        due("takeBack()", b.takeBack(), 0);
        due("arrangement()", b.arrangement(), 2);
        dueThrow("takeBack() ahead of the start", STATE, () -> b.takeBack());
    }

    private static void takeBackBarred() {
        sentence("Promise 9: Takes the last move back, whether it is allowed the other way or not");
        TowerBench b = bench(3, 2);
        bar(b, 20, 10, 12, 21);
        move(b, 2, 1);
        due("the way back was barred ahead of the move", b.takeBack(), 1);
        due("arrangement()", b.arrangement(), 2);
        barAll(b);
        due("all is barred", b.takeBack(), 0);
        due("arrangement()", b.arrangement(), 0);
    }

    private static void takeBackToTheUnlawful() {
        sentence("Promise 9: Takes the last move back");
        TowerBench b = bench(3, 2);
        b.move(0, 1);
        b.setRule(true);
        due("back to what is not lawful now", b.takeBack(), 0);
        due("isLawful()", b.isLawful(), false);
        due("arrangement()", b.arrangement(), 0);
        TowerBench last = bench(4, 3);
        move(last, 3, 1, 31);
        due("the last one, onto an empty peg", last.takeBack(), 2);
        due("arrangement()", last.arrangement(), 3 + 4);
        due("the one ahead of it", last.takeBack(), 1);
        due("arrangement()", last.arrangement(), 3);
        due("the first one", last.takeBack(), 0);
        due("arrangement()", last.arrangement(), 0);
        due("goal()", last.goal(), 63);
    }

    private static void takeBackReturns() {
        sentence("Promise 9: Returns how many moves were made then");
        TowerBench b = new TowerBench();
        shuttle(b, 250);
        for (int left = 249; left >= 0; left--) {
            due("takeBack()", b.takeBack(), left);
        }
        dueThrow("takeBack() of none", STATE, () -> b.takeBack());
        TowerBench full = new TowerBench();
        shuttle(full, 500);
        due("takeBack() of 500", full.takeBack(), 499);
        due("moves()", full.moves(), 499);
    }

    private static void takeBackThrows() {
        sentence("Promise 9: Throws IllegalStateException if no move was made");
        dueRefused("takeBack() of a new object", STATE, TowerBench::new, b -> b.takeBack());
        dueRefused("takeBack() behind the start", STATE, EdgeMovesTest::laid, b -> b.takeBack());
        TowerBench begun = busy();
        begun.begin(4, 3);
        dueThrow("takeBack() of a bench begun anew", STATE, () -> begun.takeBack());
        TowerBench back = new TowerBench();
        back.move(0, 1);
        back.takeBack();
        dueThrow("takeBack() once too often", STATE, () -> back.takeBack());
        TowerBench put = new TowerBench();
        put.put(0, 1);
        dueThrow("takeBack() of a disk that was put", STATE, () -> put.takeBack());
        TowerBench refused = new TowerBench();
        dueThrow("a move that is not possible", STATE, () -> refused.move(1, 0));
        dueThrow("takeBack() of a refused move", STATE, () -> refused.takeBack());
    }

    private static void layStartReturns() {
        sentence("Promise 10: Returns how many moves were made");
        TowerBench b = new TowerBench();
        due("layStart() on a new object", b.layStart(), 0);
        b.move(0, 1);
        due("layStart() behind one move", b.layStart(), 1);
        due("layStart() again", b.layStart(), 0);
        move(b, 12, 20);
        b.takeBack();
        due("layStart() behind two moves, one taken back", b.layStart(), 1);
        TowerBench full = new TowerBench();
        shuttle(full, 500);
        due("layStart() behind 500 moves", full.layStart(), 500);
        due("layStart() again", full.layStart(), 0);
    }

    private static void noMoveBehindTheStart() {
        sentence("Promise 10: Makes the arrangement of now the start: no move was made then");
        TowerBench b = busy();
        int arrangement = b.arrangement();
        int goal = b.goal();
        b.layStart();
        due("moves()", b.moves(), 0);
        due("arrangement() stays", b.arrangement(), arrangement);
        due("goal() stays", b.goal(), goal);
        due("lost()", b.lost(), 0);
        due("put(2, 0)", b.put(2, 0), 2);
        dueThrow("takeBack()", STATE, () -> b.takeBack());
        dueUnchanged("layStart() when no move was made", EdgeMovesTest::laid, made -> made.layStart());
        dueUnchanged("layStart() on a new object", TowerBench::new, made -> made.layStart());
    }
}
