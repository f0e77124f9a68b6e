/** Each promise by answers worked out by hand: ordinary inputs, the document's edges, wrong inputs. */
public final class PromiseTest {
    private static final Class<? extends RuntimeException> INDEX = IndexOutOfBoundsException.class;
    private static final Class<? extends RuntimeException> STATE = IllegalStateException.class;
    private static final Class<? extends RuntimeException> ARGUMENT = IllegalArgumentException.class;
    private static final int[] FAR_OFF = {Integer.MIN_VALUE, -1, Integer.MAX_VALUE};

    private static final Check CHECK = new Check("PromiseTest");

    public static void main(String[] args) {
        newObject();
        begin();
        beginAnew();
        put();
        aim();
        allow();
        setColour();
        setRule();
        move();
        moveUnderRule();
        moveLimit();
        takeBack();
        layStart();
        counts();
        pegOf();
        top();
        arrangementAndGoal();
        isLawful();
        canMove();
        way();
        wayWithBars();
        wayUnderRule();
        wayByDisks();
        wayByDisksRefused();
        lost();
        lostRefused();
        next();
        reachable();
        splits();
        CHECK.end();
    }

    private static void due(String call, long got, long want) {
        CHECK.due(call, got, want);
    }

    private static void due(String call, boolean got, boolean want) {
        CHECK.due(call, got, want);
    }

    private static void dueThrow(String call, Class<? extends RuntimeException> want, Runnable run) {
        CHECK.dueThrow(call, want, run);
    }

    private static TowerBench bench(int pegs, int disks) {
        TowerBench b = new TowerBench();
        b.begin(pegs, disks);
        return b;
    }

    private static void bar(TowerBench b, int... pairs) {
        for (int pair : pairs) {
            b.allow(pair / 10, pair % 10, false);
        }
    }

    // Promise 1
    private static void newObject() {
        TowerBench b = new TowerBench();
        due("1: pegs", b.pegs(), 3);
        due("1: disks", b.disks(), 3);
        due("1: moves", b.moves(), 0);
        due("1: arrangement", b.arrangement(), 0);
        due("1: goal", b.goal(), 26);
        due("1: rule", b.setRule(false), false);
        for (int d = 0; d < 3; d++) {
            due("1: colour", b.setColour(d, 0), 0);
        }
        due("1: allowed", b.allow(0, 2, true), true);
        due("1: splits", b.splits(20, 5), 111);
        TowerBench other = new TowerBench();
        other.move(0, 1);
        due("1: objects are apart", b.arrangement(), 0);
    }

    // Promise 2
    private static void begin() {
        TowerBench b = new TowerBench();
        int[][] counts = {{3, 1, 3}, {3, 6, 729}, {4, 1, 4}, {4, 6, 4096}, {5, 1, 5}, {5, 6, 15625}, {4, 3, 64}};
        for (int[] c : counts) {
            due("2: begin", b.begin(c[0], c[1]), c[2]);
            due("2: pegs", b.pegs(), c[0]);
            due("2: disks", b.disks(), c[1]);
            due("2: all on the peg 0", b.arrangement(), 0);
            due("2: the goal is the last peg", b.goal(), c[2] - 1);
        }
        int[][] bad = {{2, 3}, {6, 3}, {3, 0}, {3, 7}, {-3, 3}, {3, -1}, {0, 0}};
        for (int[] c : bad) {
            dueThrow("2: begin", ARGUMENT, () -> b.begin(c[0], c[1]));
        }
        for (int n : FAR_OFF) {
            dueThrow("2: begin", ARGUMENT, () -> b.begin(n, 3));
            dueThrow("2: begin", ARGUMENT, () -> b.begin(3, n));
        }
        due("2: a refused call changes nothing", b.pegs() * 10 + b.disks(), 43);
    }

    private static void beginAnew() {
        TowerBench b = bench(3, 3);
        b.setColour(1, 1);
        b.setRule(true);
        b.aim(0, 0);
        b.aim(1, 1);
        bar(b, 10, 21);
        b.put(2, 1);
        b.move(0, 2);
        dueThrow("2: begin", ARGUMENT, () -> b.begin(3, 7));
        due("2: a refused begin keeps the moves", b.moves(), 1);
        due("2: a refused begin keeps the arrangement", b.arrangement(), 11);
        due("2: a refused begin keeps the goal", b.goal(), 21);
        b.begin(3, 3);
        due("2: no move", b.moves(), 0);
        due("2: arrangement", b.arrangement(), 0);
        due("2: goal", b.goal(), 26);
        due("2: way", b.way(), 7);
        due("2: allowed", b.allow(1, 0, true), true);
        due("2: allowed", b.allow(2, 1, true), true);
        due("2: colour", b.setColour(1, 0), 0);
        due("2: rule", b.setRule(false), false);
        b.begin(5, 6);
        bar(b, 43);
        for (int d = 0; d < 6; d++) {
            b.setColour(d, 1);
        }
        b.begin(3, 1);
        b.begin(5, 6);
        due("2: the pegs that come back are free", b.allow(4, 3, true), true);
        for (int d = 0; d < 6; d++) {
            due("2: the disks that come back have colour 0", b.setColour(d, 0), 0);
        }
        bar(b, 43);
        b.begin(3, 3);
        due("2: no bar stays behind", b.wayByDisks(), 7);
    }

    // Promise 3
    private static void put() {
        TowerBench b = bench(4, 3);
        due("3: put", b.put(2, 3), 0);
        due("3: put", b.put(0, 2), 0);
        due("3: put on its own peg", b.put(0, 2), 2);
        due("3: put a large one above a small one's place", b.put(1, 2), 0);
        due("3: arrangement", b.arrangement(), 2 + 2 * 4 + 3 * 16);
        due("3: the small one is on top", b.top(2), 0);
        due("3: the goal stays", b.goal(), 63);
        dueThrow("3: put", INDEX, () -> b.put(3, 0));
        dueThrow("3: put", INDEX, () -> b.put(-1, 0));
        dueThrow("3: put", INDEX, () -> b.put(0, 4));
        dueThrow("3: put", INDEX, () -> b.put(0, -1));
        for (int n : FAR_OFF) {
            dueThrow("3: put", INDEX, () -> b.put(n, 0));
            dueThrow("3: put", INDEX, () -> b.put(0, n));
        }
        b.move(2, 1);
        dueThrow("3: put behind a move", STATE, () -> b.put(0, 1));
        dueThrow("3: the index is named first", INDEX, () -> b.put(3, 1));
        dueThrow("3: the index is named first", INDEX, () -> b.put(0, 4));
        due("3: nothing changed", b.arrangement(), 1 + 2 * 4 + 3 * 16);
        b.takeBack();
        due("3: put once the move is taken back", b.put(0, 0), 2);
        b.move(0, 1);
        b.layStart();
        due("3: put behind the start", b.put(0, 3), 1);
        b.setRule(true);
        due("3: an unlawful place", b.put(0, 2), 3);
        due("3: it is unlawful", b.isLawful(), false);
    }

    // Promise 4
    private static void aim() {
        TowerBench b = bench(5, 2);
        due("4: aim", b.aim(0, 1), 4);
        due("4: aim", b.aim(0, 2), 1);
        due("4: aim", b.aim(1, 0), 4);
        due("4: goal", b.goal(), 2);
        due("4: the arrangement stays", b.arrangement(), 0);
        due("4: way", b.way(), 1);
        dueThrow("4: aim", INDEX, () -> b.aim(2, 0));
        dueThrow("4: aim", INDEX, () -> b.aim(-1, 0));
        dueThrow("4: aim", INDEX, () -> b.aim(0, 5));
        dueThrow("4: aim", INDEX, () -> b.aim(0, -1));
        for (int n : FAR_OFF) {
            dueThrow("4: aim", INDEX, () -> b.aim(n, 0));
            dueThrow("4: aim", INDEX, () -> b.aim(0, n));
        }
        b.move(0, 2);
        due("4: aim behind a move", b.aim(0, 0), 2);
        due("4: way", b.way(), 1);
        due("4: goal", b.goal(), 0);
        due("4: moves stay", b.moves(), 1);
    }

    // Promise 5
    private static void allow() {
        TowerBench b = bench(4, 2);
        due("5: allow", b.allow(0, 3, false), true);
        due("5: allow", b.allow(0, 3, false), false);
        due("5: one way alone", b.allow(3, 0, true), true);
        due("5: barred", b.canMove(0, 3), false);
        due("5: allow", b.allow(0, 3, true), false);
        due("5: allow", b.allow(0, 3, true), true);
        due("5: free again", b.canMove(0, 3), true);
        dueThrow("5: allow", ARGUMENT, () -> b.allow(1, 1, false));
        dueThrow("5: allow", INDEX, () -> b.allow(4, 0, false));
        dueThrow("5: allow", INDEX, () -> b.allow(0, 4, false));
        dueThrow("5: allow", INDEX, () -> b.allow(-1, 0, false));
        dueThrow("5: allow", INDEX, () -> b.allow(0, -1, false));
        dueThrow("5: the index is named first", INDEX, () -> b.allow(4, 4, false));
        for (int n : FAR_OFF) {
            dueThrow("5: allow", INDEX, () -> b.allow(n, n, false));
        }
        for (int from = 0; from < 4; from++) {
            for (int to = 0; to < 4; to++) {
                if (from != to) {
                    due("5: nothing else was barred", b.allow(from, to, true), true);
                }
            }
        }
        b.move(0, 1);
        due("5: allow behind a move", b.allow(1, 0, false), true);
        due("5: barred", b.canMove(1, 0), false);
    }

    // Promise 6
    private static void setColour() {
        TowerBench b = bench(3, 2);
        due("6: setColour", b.setColour(1, 1), 0);
        due("6: setColour", b.setColour(1, 1), 1);
        due("6: the other one", b.setColour(0, 0), 0);
        due("6: setColour", b.setColour(1, 0), 1);
        dueThrow("6: setColour", INDEX, () -> b.setColour(2, 0));
        dueThrow("6: setColour", INDEX, () -> b.setColour(-1, 0));
        dueThrow("6: setColour", ARGUMENT, () -> b.setColour(0, 2));
        dueThrow("6: setColour", ARGUMENT, () -> b.setColour(0, -1));
        dueThrow("6: the index is named first", INDEX, () -> b.setColour(2, 2));
        for (int n : FAR_OFF) {
            dueThrow("6: setColour", INDEX, () -> b.setColour(n, 0));
            dueThrow("6: setColour", ARGUMENT, () -> b.setColour(1, n));
        }
        due("6: nothing changed", b.setColour(0, 0) + b.setColour(1, 0), 0);
        b.move(0, 1);
        due("6: behind a move", b.setColour(0, 1), 0);
        due("6: moves stay", b.moves(), 1);
    }

    // Promise 7
    private static void setRule() {
        TowerBench b = bench(3, 2);
        due("7: setRule", b.setRule(true), false);
        due("7: setRule", b.setRule(true), true);
        due("7: unlawful", b.isLawful(), false);
        due("7: setRule", b.setRule(false), true);
        due("7: setRule", b.setRule(false), false);
        due("7: lawful", b.isLawful(), true);
        b.move(0, 1);
        due("7: behind a move", b.setRule(true), false);
    }

    // Promise 8
    private static void move() {
        TowerBench b = bench(3, 3);
        due("8: move", b.move(0, 2), 0);
        due("8: move", b.move(0, 1), 1);
        dueThrow("8: onto a smaller disk", STATE, () -> b.move(0, 1));
        dueThrow("8: onto a smaller disk", STATE, () -> b.move(1, 2));
        due("8: onto a larger disk", b.move(2, 1), 0);
        dueThrow("8: from an empty peg", STATE, () -> b.move(2, 0));
        dueThrow("8: to the same peg", STATE, () -> b.move(0, 0));
        dueThrow("8: the empty peg to itself", STATE, () -> b.move(2, 2));
        due("8: moves", b.moves(), 3);
        due("8: arrangement", b.arrangement(), 1 + 3);
        bar(b, 2);
        dueThrow("8: barred", STATE, () -> b.move(0, 2));
        b.allow(0, 2, true);
        due("8: move", b.move(0, 2), 2);
        dueThrow("8: move", INDEX, () -> b.move(3, 0));
        dueThrow("8: move", INDEX, () -> b.move(0, 3));
        dueThrow("8: move", INDEX, () -> b.move(-1, 0));
        dueThrow("8: move", INDEX, () -> b.move(0, -1));
        for (int n : FAR_OFF) {
            dueThrow("8: move", INDEX, () -> b.move(n, n));
        }
        due("8: nothing changed", b.moves(), 4);
    }

    private static void moveUnderRule() {
        TowerBench b = bench(3, 3);
        b.setRule(true);
        dueThrow("8: the rest is unlawful", STATE, () -> b.move(0, 1));
        b.setColour(2, 1);
        due("8: from an unlawful one to a lawful one", b.move(0, 1), 0);
        dueThrow("8: unlawful, and a smaller disk is there", STATE, () -> b.move(0, 1));
        due("8: move", b.move(0, 2), 1);
        dueThrow("8: onto the same colour", STATE, () -> b.move(1, 2));
        due("8: onto the other colour", b.move(1, 0), 0);
        due("8: moves", b.moves(), 3);
    }

    private static void moveLimit() {
        TowerBench b = bench(3, 1);
        for (int k = 0; k < 500; k++) {
            b.move(k % 2, 1 - k % 2);
        }
        due("8: 500 moves", b.moves(), 500);
        dueThrow("8: move 501", STATE, () -> b.move(0, 1));
        dueThrow("8: the index is named first", INDEX, () -> b.move(0, 3));
        due("19: but for the number of moves", b.canMove(0, 1), true);
        due("22: 500 moves lost", b.lost(), 500);
        due("9: takeBack", b.takeBack(), 499);
        due("8: move 500 again", b.move(1, 2), 0);
        due("10: layStart", b.layStart(), 500);
        due("8: move behind the start", b.move(2, 0), 0);
        due("9: takeBack", b.takeBack(), 0);
        due("9: it is the start", b.arrangement(), 2);
    }

    // Promise 9
    private static void takeBack() {
        TowerBench b = bench(4, 3);
        dueThrow("9: nothing to take back", STATE, () -> b.takeBack());
        b.move(0, 1);
        b.move(0, 2);
        b.move(1, 2);
        bar(b, 21, 20, 10);
        due("9: a barred way back", b.takeBack(), 2);
        due("9: arrangement", b.arrangement(), 1 + 2 * 4);
        b.setRule(true);
        due("9: to an unlawful one", b.takeBack(), 1);
        due("9: unlawful", b.isLawful(), false);
        due("9: moves", b.moves(), 1);
        due("9: takeBack", b.takeBack(), 0);
        due("9: arrangement", b.arrangement(), 0);
        dueThrow("9: nothing to take back", STATE, () -> b.takeBack());
        b.setRule(false);
        b.move(0, 3);
        b.layStart();
        dueThrow("9: not behind the start", STATE, () -> b.takeBack());
        due("9: arrangement", b.arrangement(), 3);
        b.move(3, 1);
        b.begin(4, 3);
        dueThrow("9: not behind the beginning", STATE, () -> b.takeBack());
    }

    // Promise 10
    private static void layStart() {
        TowerBench b = bench(3, 3);
        due("10: layStart", b.layStart(), 0);
        b.move(0, 2);
        b.move(0, 1);
        b.move(2, 0);
        due("22: lost", b.lost(), 3 + 5 - 7);
        due("10: layStart", b.layStart(), 3);
        due("10: no move", b.moves(), 0);
        due("10: the arrangement stays", b.arrangement(), 3);
        due("10: the goal stays", b.goal(), 26);
        due("22: nothing is lost from the new start", b.lost(), 0);
        due("10: layStart", b.layStart(), 0);
    }

    // Promises 11 to 13
    private static void counts() {
        TowerBench b = bench(5, 2);
        due("11: pegs", b.pegs(), 5);
        due("12: disks", b.disks(), 2);
        b.begin(4, 6);
        due("11: pegs", b.pegs(), 4);
        due("12: disks", b.disks(), 6);
        due("13: moves", b.moves(), 0);
        b.move(0, 1);
        b.move(1, 2);
        due("13: moves", b.moves(), 2);
        b.takeBack();
        due("13: moves", b.moves(), 1);
    }

    // Promise 14
    private static void pegOf() {
        TowerBench b = bench(5, 6);
        for (int d = 0; d < 6; d++) {
            due("14: pegOf", b.pegOf(d), 0);
            b.put(d, (d + 2) % 5);
        }
        for (int d = 0; d < 6; d++) {
            due("14: pegOf", b.pegOf(d), (d + 2) % 5);
        }
        b.move(4, 0);
        due("14: pegOf behind a move", b.pegOf(2), 0);
        dueThrow("14: pegOf", INDEX, () -> b.pegOf(6));
        dueThrow("14: pegOf", INDEX, () -> b.pegOf(-1));
        b.begin(5, 2);
        dueThrow("14: pegOf", INDEX, () -> b.pegOf(2));
        for (int n : FAR_OFF) {
            dueThrow("14: pegOf", INDEX, () -> b.pegOf(n));
        }
    }

    // Promise 15
    private static void top() {
        TowerBench b = bench(4, 4);
        due("15: top", b.top(0), 0);
        for (int peg = 1; peg < 4; peg++) {
            due("15: empty", b.top(peg), -1);
        }
        b.move(0, 3);
        due("15: top", b.top(0), 1);
        due("15: top", b.top(3), 0);
        b.layStart();
        b.put(2, 3);
        b.put(3, 1);
        due("15: below the top", b.top(3), 0);
        due("15: top", b.top(1), 3);
        b.aim(1, 2);
        due("15: not of the goal", b.top(2), -1);
        dueThrow("15: top", INDEX, () -> b.top(4));
        dueThrow("15: top", INDEX, () -> b.top(-1));
        b.begin(3, 4);
        dueThrow("15: top", INDEX, () -> b.top(3));
        for (int n : FAR_OFF) {
            dueThrow("15: top", INDEX, () -> b.top(n));
        }
    }

    // Promises 16 and 17
    private static void arrangementAndGoal() {
        TowerBench b = bench(4, 3);
        b.put(0, 3);
        b.put(1, 1);
        b.put(2, 2);
        due("16: arrangement", b.arrangement(), 3 + 4 + 2 * 16);
        due("17: goal", b.goal(), 63);
        b.aim(0, 1);
        b.aim(1, 2);
        b.aim(2, 0);
        due("17: goal", b.goal(), 1 + 2 * 4);
        due("16: arrangement", b.arrangement(), 39);
        b.move(1, 2);
        due("16: arrangement", b.arrangement(), 3 + 2 * 4 + 2 * 16);
        due("17: goal", b.goal(), 9);
        b.begin(5, 6);
        for (int d = 0; d < 6; d++) {
            b.put(d, 4);
            b.aim(d, 0);
        }
        due("16: the highest one", b.arrangement(), 15624);
        due("17: the lowest one", b.goal(), 0);
    }

    // Promise 18
    private static void isLawful() {
        TowerBench b = bench(3, 4);
        due("18: without the rule", b.isLawful(), true);
        b.setRule(true);
        due("18: one colour alone", b.isLawful(), false);
        b.setColour(1, 1);
        due("18: two at the bottom", b.isLawful(), false);
        b.setColour(3, 1);
        due("18: in turns", b.isLawful(), true);
        b.put(1, 2);
        due("18: what was between is gone", b.isLawful(), false);
        b.put(2, 2);
        due("18: 0 on 3, 1 on 2", b.isLawful(), true);
        b.put(2, 1);
        b.put(3, 2);
        due("18: 1 on 3", b.isLawful(), false);
        b.aim(3, 0);
        b.put(3, 1);
        due("18: the goal counts for nothing", b.isLawful(), true);
        b.begin(5, 1);
        b.setRule(true);
        due("18: one disk", b.isLawful(), true);
    }

    // Promise 19
    private static void canMove() {
        TowerBench b = bench(3, 2);
        due("19: to an empty peg", b.canMove(0, 1), true);
        due("19: from an empty peg", b.canMove(1, 0), false);
        due("19: the same peg", b.canMove(0, 0), false);
        due("19: the same empty peg", b.canMove(1, 1), false);
        b.move(0, 2);
        due("19: onto a smaller disk", b.canMove(0, 2), false);
        due("19: onto a larger disk", b.canMove(2, 0), true);
        bar(b, 20);
        due("19: barred", b.canMove(2, 0), false);
        due("19: the other way is not", b.canMove(2, 1), true);
        b.allow(2, 0, true);
        b.setRule(true);
        due("19: onto the same colour", b.canMove(2, 0), false);
        due("19: onto an empty peg", b.canMove(2, 1), true);
        b.setColour(0, 1);
        due("19: onto the other colour", b.canMove(2, 0), true);
        dueThrow("19: canMove", INDEX, () -> b.canMove(0, 3));
        dueThrow("19: canMove", INDEX, () -> b.canMove(3, 0));
        dueThrow("19: canMove", INDEX, () -> b.canMove(3, 3));
        dueThrow("19: canMove", INDEX, () -> b.canMove(-1, 0));
        dueThrow("19: canMove", INDEX, () -> b.canMove(0, -1));
        for (int n : FAR_OFF) {
            dueThrow("19: canMove", INDEX, () -> b.canMove(n, 0));
            dueThrow("19: canMove", INDEX, () -> b.canMove(0, n));
        }
        due("19: nothing changes", b.moves(), 1);
    }

    // Promise 20
    private static void way() {
        int[] three = {1, 3, 7, 15, 31, 63};
        int[] four = {1, 3, 5, 9, 13, 17};
        int[] five = {1, 3, 5, 7, 11, 15};
        TowerBench b = new TowerBench();
        for (int n = 1; n <= 6; n++) {
            b.begin(3, n);
            due("20: three pegs", b.way(), three[n - 1]);
            b.begin(4, n);
            due("20: four pegs", b.way(), four[n - 1]);
            b.begin(5, n);
            due("20: five pegs", b.way(), five[n - 1]);
        }
        b.begin(3, 3);
        b.put(2, 2);
        due("20: the largest one is there", b.way(), 3);
        b.aim(0, 0);
        b.aim(1, 0);
        due("20: the goal", b.way(), 0);
        b.setRule(true);
        due("20: none from the unlawful goal to itself", b.way(), -1);
    }

    private static void wayWithBars() {
        TowerBench b = bench(3, 3);
        bar(b, 2, 20);
        due("20: neighbours alone", b.way(), 26);
        b.begin(3, 3);
        bar(b, 2, 21, 10);
        due("20: round about", b.way(), 21);
        b.begin(3, 1);
        bar(b, 2);
        due("20: by the third peg", b.way(), 2);
        bar(b, 12);
        due("20: no way", b.way(), -1);
        due("20: it goes back", reverseWay(b), 1);
        b.allow(0, 2, true);
        due("20: one move", b.way(), 1);
        b.allow(0, 2, false);
        b.aim(0, 0);
        due("20: at the goal", b.way(), 0);
    }

    /** The way from the last peg of three to the first one, with one disk. */
    private static int reverseWay(TowerBench b) {
        b.put(0, 2);
        b.aim(0, 0);
        int way = b.way();
        b.put(0, 0);
        b.aim(0, 2);
        return way;
    }

    private static void wayUnderRule() {
        TowerBench b = bench(3, 2);
        b.setRule(true);
        due("20: unlawful", b.way(), -1);
        b.put(0, 1);
        due("20: the goal is unlawful", b.way(), -1);
        b.aim(0, 1);
        due("20: both are lawful", b.way(), 1);
        b.aim(0, 0);
        due("20: the larger one moves first", b.way(), 2);
        b.aim(1, 1);
        due("20: they change places by the third peg", b.way(), 3);
        b.begin(3, 3);
        b.setColour(1, 1);
        b.setRule(true);
        b.put(0, 2);
        b.put(1, 2);
        due("20: 0 may not lie on 2", b.way(), 9);
        b.setColour(2, 1);
        due("20: the goal is unlawful by a colour", b.way(), -1);
        b.setRule(false);
        due("20: without the rule", b.way(), 7);
    }

    // Promise 21
    private static void wayByDisks() {
        TowerBench b = new TowerBench();
        for (int n = 1; n <= 6; n++) {
            b.begin(3, n);
            due("21: whole towers", b.wayByDisks(), (1 << n) - 1);
        }
        b.begin(3, 2);
        b.put(0, 1);
        b.aim(0, 1);
        due("21: once", b.wayByDisks(), 1);
        b.put(1, 2);
        b.aim(0, 0);
        due("21: the largest one is left aside", b.wayByDisks(), 1);
        b.put(0, 0);
        due("21: all are left aside", b.wayByDisks(), 0);
        b.begin(3, 3);
        b.put(0, 2);
        b.put(1, 2);
        b.aim(0, 0);
        b.aim(1, 0);
        due("21: twice", b.wayByDisks(), 5);
        due("20: twice", b.way(), 5);
        b.put(0, 1);
        b.put(1, 1);
        due("21: once", b.wayByDisks(), 4);
        b.begin(3, 4);
        b.put(1, 2);
        b.put(2, 1);
        due("21: gathered on a way of its own", b.wayByDisks(), b.way());
        dueAll();
    }

    /** Every two arrangements of four disks, by both ways to tell it. */
    private static void dueAll() {
        for (int from = 0; from < 81; from++) {
            TowerBench b = bench(3, 4);
            int rest = from;
            for (int d = 0; d < 4; d++) {
                b.put(d, rest % 3);
                rest /= 3;
            }
            for (int goal = 0; goal < 81; goal++) {
                b.aim(0, goal % 3);
                b.aim(1, goal / 3 % 3);
                b.aim(2, goal / 9 % 3);
                b.aim(3, goal / 27);
                due("21: from " + from + " to " + goal, b.wayByDisks(), b.way());
            }
        }
    }

    private static void wayByDisksRefused() {
        TowerBench b = bench(4, 3);
        dueThrow("21: four pegs", STATE, () -> b.wayByDisks());
        b.begin(5, 1);
        dueThrow("21: five pegs", STATE, () -> b.wayByDisks());
        b.begin(3, 3);
        for (int from = 0; from < 3; from++) {
            for (int to = 0; to < 3; to++) {
                if (from != to) {
                    b.allow(from, to, false);
                    dueThrow("21: barred", STATE, () -> b.wayByDisks());
                    b.allow(from, to, true);
                }
            }
        }
        b.setColour(1, 1);
        b.setRule(true);
        dueThrow("21: the rule", STATE, () -> b.wayByDisks());
        b.setRule(false);
        due("21: colours without the rule", b.wayByDisks(), 7);
    }

    // Promise 22
    private static void lost() {
        TowerBench b = bench(3, 3);
        due("22: lost", b.lost(), 0);
        b.move(0, 1);
        due("22: the wrong peg", b.lost(), 1);
        b.move(1, 2);
        due("22: mended", b.lost(), 1);
        b.takeBack();
        b.takeBack();
        due("22: taken back", b.lost(), 0);
        b.move(0, 2);
        b.move(0, 1);
        b.move(2, 0);
        b.move(0, 2);
        due("22: there and back", b.lost(), 2);
        b.aim(2, 0);
        b.aim(1, 1);
        due("22: less way from the start to another goal", b.lost(), 2);
        b.aim(1, 0);
        b.aim(0, 0);
        due("22: the goal is the start", b.lost(), 4 + 2);
        b.begin(3, 1);
        b.move(0, 1);
        bar(b, 2);
        due("22: a bar behind the move", b.lost(), 1 + 1 - 2);
        b.allow(0, 2, true);
        b.layStart();
        b.put(0, 0);
        b.move(0, 2);
        due("22: the start as it was put", b.lost(), 0);
        bar(b, 2, 1);
        b.takeBack();
        dueThrow("22: none from here, which is the start", STATE, () -> b.lost());
    }

    private static void lostRefused() {
        TowerBench b = bench(3, 1);
        b.move(0, 1);
        b.move(1, 2);
        bar(b, 1, 2);
        due("20: way", b.way(), 0);
        dueThrow("22: none from the start", STATE, () -> b.lost());
        b.allow(0, 2, true);
        due("22: lost", b.lost(), 1);
        b.takeBack();
        bar(b, 12, 10);
        dueThrow("22: none from here", STATE, () -> b.lost());
        due("22: nothing changed", b.moves(), 1);
        b.begin(3, 2);
        b.move(0, 1);
        b.aim(0, 1);
        b.setRule(true);
        due("20: way", b.way(), 1);
        dueThrow("22: the start is unlawful", STATE, () -> b.lost());
        b.takeBack();
        dueThrow("22: now is unlawful", STATE, () -> b.lost());
    }

    // Promise 23
    private static void next() {
        TowerBench b = bench(3, 3);
        int[] moves = {2, 1, 21, 2, 10, 12, 2};
        for (int k = 0; k < 7; k++) {
            due("23: next", b.next(), moves[k]);
            due("23: next changes nothing", b.moves(), k);
            b.move(moves[k] / 10, moves[k] % 10);
        }
        due("23: at the goal", b.next(), -1);
        b.begin(5, 2);
        due("23: the lowest of several", b.next(), 1);
        bar(b, 1);
        due("23: but for the barred one", b.next(), 2);
        b.begin(3, 1);
        b.put(0, 2);
        b.aim(0, 0);
        due("23: from the last peg", b.next(), 20);
        bar(b, 20, 21);
        due("23: no way", b.next(), -1);
        b.begin(4, 3);
        b.put(1, 2);
        b.put(2, 1);
        due("23: the lowest peg of several", b.next(), nextByHand(b));
        b.begin(3, 2);
        b.setRule(true);
        due("23: unlawful", b.next(), -1);
    }

    /** Tries each move in the order of its number. */
    private static int nextByHand(TowerBench b) {
        int way = b.way();
        for (int from = 0; from < b.pegs(); from++) {
            for (int to = 0; to < b.pegs(); to++) {
                if (b.canMove(from, to)) {
                    b.move(from, to);
                    int rest = b.way();
                    b.takeBack();
                    if (rest == way - 1) {
                        return 10 * from + to;
                    }
                }
            }
        }
        return -1;
    }

    // Promise 24
    private static void reachable() {
        TowerBench b = bench(5, 6);
        due("24: all", b.reachable(), 15625);
        b.begin(3, 1);
        due("24: all", b.reachable(), 3);
        bar(b, 1, 21);
        due("24: one way alone", b.reachable(), 2);
        b.put(0, 1);
        due("24: from the other peg", b.reachable(), 3);
        bar(b, 10, 12);
        due("24: itself", b.reachable(), 1);
        due("24: reachable changes nothing", b.arrangement(), 1);
        b.begin(3, 2);
        b.setRule(true);
        due("24: unlawful", b.reachable(), 0);
        b.put(0, 1);
        due("24: the six lawful ones", b.reachable(), 6);
        due("20: the way is kept apart", b.way(), -1);
        b.begin(3, 3);
        int way = b.way();
        b.put(0, 1);
        b.reachable();
        due("20: the way is kept apart", b.way(), way);
    }

    // Promise 25
    private static void splits() {
        int[] four = {0, 1, 3, 5, 9, 13, 17, 25, 33, 41, 49, 65, 81, 97, 113, 129, 161, 193, 225, 257, 289};
        int[] five = {0, 1, 3, 5, 7, 11, 15, 19, 23, 27, 31, 39, 47, 55, 63, 71, 79, 87, 95, 103, 111};
        TowerBench b = new TowerBench();
        for (int m = 0; m <= 20; m++) {
            due("25: three pegs", b.splits(m, 3), (1 << m) - 1);
            due("25: four pegs", b.splits(m, 4), four[m]);
            due("25: five pegs", b.splits(m, 5), five[m]);
        }
        int[][] bad = {{-1, 3}, {21, 3}, {0, 2}, {0, 6}, {20, 6}, {21, 5}, {-1, 2}};
        for (int[] c : bad) {
            dueThrow("25: splits", ARGUMENT, () -> b.splits(c[0], c[1]));
        }
        for (int n : FAR_OFF) {
            dueThrow("25: splits", ARGUMENT, () -> b.splits(n, 3));
            dueThrow("25: splits", ARGUMENT, () -> b.splits(3, n));
        }
        due("25: splits changes nothing", b.pegs() * 10 + b.disks(), 33);
    }
}
