/** The sentences of the promises 20 to 25 that name an edge, each with a test of its own. */
public final class EdgeWaysTest extends Edge {
    public static void main(String[] args) {
        start("EdgeWaysTest");
        test(EdgeWaysTest::wayOfTowers);
        test(EdgeWaysTest::wayOfNone);
        test(EdgeWaysTest::wayOfNought);
        test(EdgeWaysTest::wayThroughAll);
        test(EdgeWaysTest::wayBehindChanges);
        test(EdgeWaysTest::byDisks);
        test(EdgeWaysTest::byDisksMorePegs);
        test(EdgeWaysTest::byDisksBarred);
        test(EdgeWaysTest::byDisksRule);
        test(EdgeWaysTest::lost);
        test(EdgeWaysTest::lostNoneFromNow);
        test(EdgeWaysTest::lostNoneFromStart);
        test(EdgeWaysTest::lostBelowNought);
        test(EdgeWaysTest::next);
        test(EdgeWaysTest::nextLowest);
        test(EdgeWaysTest::nextNone);
        test(EdgeWaysTest::reachable);
        test(EdgeWaysTest::reachableItself);
        test(EdgeWaysTest::reachableUnlawful);
        test(EdgeWaysTest::splits);
        test(EdgeWaysTest::splitsThrows);
        end();
    }

    private static void wayOfTowers() {
        sentence("Promise 20: Returns the way, by a search over arrangements");
        int[][] ways = {{1, 3, 7, 15, 31, 63}, {1, 3, 5, 9, 13, 17}, {1, 3, 5, 7, 11, 15}};
        for (int p = 3; p <= 5; p++) {
            for (int n = 1; n <= 6; n++) {
                due("way() of " + n + " disks on " + p + " pegs", bench(p, n).way(), ways[p - 3][n - 1]);
            }
        }
    }

    private static void wayOfNone() {
        sentence("Promise 20: -1 if there is none");
        TowerBench b = bench(5, 1);
        bar(b, 4, 14, 24);
        due("way() by the last peg that leads to the goal", b.way(), 2);
        bar(b, 34);
        due("way() when none leads to it", b.way(), -1);
        TowerBench out = bench(5, 1);
        bar(out, 1, 2, 4);
        due("way() by the last peg that leads from the start", out.way(), 2);
        bar(out, 3);
        due("way() when none leads from it", out.way(), -1);
        due("way() of six disks with a peg that none leads to", wide().way(), -1);
        due("way() of what is not lawful", unlawful().way(), -1);
        TowerBench goal = bench(3, 2);
        goal.put(0, 1);
        goal.setRule(true);
        due("way() to what is not lawful", goal.way(), -1);
        TowerBench oneWay = bench(3, 1);
        bar(oneWay, 2, 12);
        due("way() when the goal can only be left", oneWay.way(), -1);
        oneWay.put(0, 2);
        due("way() at the goal that can't be come to", oneWay.way(), 0);
        oneWay.aim(0, 0);
        due("way() from where none comes back", oneWay.way(), 1);
    }

    private static void wayOfNought() {
        sentence("Promise 20: Returns the way");
        TowerBench b = bench(3, 6);
        aim(b, 0, 0, 0, 0, 0, 0);
        due("way() when now is the goal", b.way(), 0);
        b.aim(0, 1);
        due("way() of one move", b.way(), 1);
        b.move(0, 1);
        due("way() behind it", b.way(), 0);
        b.move(1, 2);
        due("way() past it", b.way(), 1);
        TowerBench full = new TowerBench();
        shuttle(full, 500);
        due("way() behind 500 moves", full.way(), 7);
    }

    private static void wayThroughAll() {
        sentence("Promise 20: Returns the way, by a search over arrangements");
        TowerBench b = bench(3, 6);
        bar(b, 2, 20);
        due("way() through all 729", b.way(), 728);
        due("next()", b.next(), 1);
        due("reachable()", b.reachable(), 729);
        TowerBench four = bench(4, 6);
        bar(four, 2, 3, 13, 20, 30, 31);
        due("reachable() of four pegs in a row", four.reachable(), 4096);
        TowerBench two = bench(4, 2);
        bar(two, 2, 3, 13, 20, 30, 31);
        due("way() of two disks on four pegs in a row", two.way(), 10);
        TowerBench round = bench(3, 3);
        bar(round, 2, 10, 21);
        due("way() of three disks round about", round.way(), 21);
        TowerBench back = bench(3, 3);
        bar(back, 1, 12, 20);
        due("way() of three disks round the other way", back.way(), 15);
    }

    private static void wayBehindChanges() {
        sentence("Promise 20: Returns the way");
        TowerBench b = bench(3, 2);
        due("way()", b.way(), 3);
        b.aim(1, 0);
        due("way() behind aim", b.way(), 1);
        bar(b, 2);
        due("way() behind allow", b.way(), 2);
        allow(b, 2);
        due("way() behind allow again", b.way(), 1);
        b.setRule(true);
        due("way() behind setRule", b.way(), -1);
        b.setColour(1, 1);
        due("way() behind setColour", b.way(), 1);
        b.put(0, 2);
        due("way() behind put", b.way(), 0);
        b.put(0, 0);
        b.move(0, 1);
        due("way() behind a move", b.way(), 1);
        b.move(1, 2);
        due("way() behind another", b.way(), 0);
        b.takeBack();
        b.takeBack();
        due("way() behind takeBack", b.way(), 1);
        b.begin(3, 4);
        due("way() behind begin", b.way(), 15);
        due("reachable()", b.reachable(), 81);
        due("way() behind reachable()", b.way(), 15);
        due("next()", b.next(), 1);
        due("way() behind next()", b.way(), 15);
    }

    private static void byDisks() {
        sentence("Promise 21: Returns the fewest moves from the arrangement of now to the goal, disk by disk");
        for (int n = 1; n <= 6; n++) {
            due("a tower of " + n, bench(3, n).wayByDisks(), power(2, n) - 1);
        }
        for (int from = 0; from < 27; from++) {
            TowerBench b = bench(3, 3);
            put(b, from % 3, from / 3 % 3, from / 9);
            for (int to = 0; to < 27; to++) {
                aim(b, to % 3, to / 3 % 3, to / 9);
                due("from " + from + " to " + to, b.wayByDisks(), b.way());
            }
        }
        TowerBench six = bench(3, 6);
        put(six, 2, 2, 2, 2, 2, 0);
        aim(six, 0, 0, 0, 0, 0, 2);
        due("six disks, the largest one twice", six.wayByDisks(), 33);
        put(six, 1, 2, 0, 1, 2, 0);
        aim(six, 0, 2, 1, 0, 2, 1);
        due("six disks strewn about", six.wayByDisks(), six.way());
    }

    private static void byDisksMorePegs() {
        sentence("Promise 21: Throws IllegalStateException if there are more than 3 pegs");
        for (int n = 1; n <= 6; n++) {
            TowerBench b = bench(4, n);
            dueThrow("four pegs", STATE, () -> b.wayByDisks());
            aim(b, new int[n]);
            dueThrow("four pegs, at the goal", STATE, () -> b.wayByDisks());
            b.begin(5, n);
            dueThrow("five pegs", STATE, () -> b.wayByDisks());
            b.begin(3, n);
            due("three pegs", b.wayByDisks(), power(2, n) - 1);
        }
    }

    private static void byDisksBarred() {
        sentence("Promise 21: a move is barred");
        for (int pair : new int[] {1, 2, 10, 12, 20, 21}) {
            TowerBench b = bench(3, 1);
            bar(b, pair);
            dueThrow("barred: " + pair, STATE, () -> b.wayByDisks());
            b.aim(0, 0);
            dueThrow("barred, at the goal: " + pair, STATE, () -> b.wayByDisks());
            allow(b, pair);
            due("allowed again: " + pair, b.wayByDisks(), 0);
        }
        TowerBench wide = bench(5, 6);
        barAll(wide);
        wide.begin(3, 6);
        due("what was barred on another bench", wide.wayByDisks(), 63);
    }

    private static void byDisksRule() {
        sentence("Promise 21: or the rule of colours is on");
        TowerBench b = bench(3, 1);
        b.setRule(true);
        dueThrow("the rule, with one disk", STATE, () -> b.wayByDisks());
        b.aim(0, 0);
        dueThrow("the rule, at the goal", STATE, () -> b.wayByDisks());
        b.setRule(false);
        due("the rule off again", b.wayByDisks(), 0);
        b.setColour(0, 1);
        due("a colour alone", b.wayByDisks(), 0);
    }

    private static void lost() {
        sentence("Promise 22: Returns how many moves are lost");
        TowerBench b = bench(3, 3);
        due("no move", b.lost(), 0);
        b.move(0, 2);
        due("a move that is one of the best", b.lost(), 0);
        b.takeBack();
        b.move(0, 1);
        due("a move after which the way is as long", b.lost(), 1);
        move(b, 10);
        due("to and fro", b.lost(), 2);
        b.takeBack();
        b.takeBack();
        due("all taken back", b.lost(), 0);
        TowerBench full = new TowerBench();
        full.put(2, 2);
        shuttle(full, 499);
        due("499 moves, the last one a good one", full.lost(), 499 + 2 - 3);
    }

    private static void lostNoneFromNow() {
        sentence("Promise 22: Throws IllegalStateException if there is no way from the arrangement of now");
        TowerBench b = bench(3, 1);
        b.move(0, 1);
        bar(b, 10, 12);
        dueThrow("none from now, but from the start", STATE, () -> b.lost());
        due("way()", b.way(), -1);
        b.takeBack();
        due("back at the start", b.lost(), 0);
        b.setRule(true);
        due("lawful with the rule", b.lost(), 0);
        TowerBench start = bench(3, 2);
        start.setRule(true);
        dueThrow("now is the start, and not lawful", STATE, () -> start.lost());
        start.put(0, 1);
        dueThrow("the goal is not lawful", STATE, () -> start.lost());
        TowerBench onto = bench(3, 2);
        onto.put(0, 1);
        aim(onto, 1, 2);
        onto.move(1, 0);
        onto.setRule(true);
        dueThrow("two of a colour lie on each other now", STATE, () -> onto.lost());
        onto.setColour(1, 1);
        due("two colours lie on each other now", onto.lost(), 1 + 2 - 1);
        TowerBench wide = wide();
        dueThrow("neither from now nor from the start", STATE, () -> wide.lost());
    }

    private static void lostNoneFromStart() {
        sentence("Promise 22: or none from the start");
        TowerBench b = bench(3, 1);
        b.move(0, 1);
        bar(b, 1, 2);
        due("way() from now", b.way(), 1);
        dueThrow("none from the start, but from now", STATE, () -> b.lost());
        b.move(1, 2);
        dueThrow("none from the start, and now is the goal", STATE, () -> b.lost());
        b.layStart();
        due("from the start that was laid", b.lost(), 0);
        TowerBench rule = bench(3, 2);
        aim(rule, 2, 0);
        rule.move(0, 1);
        rule.setRule(true);
        due("way() from now", rule.way(), 1);
        dueThrow("the start is not lawful", STATE, () -> rule.lost());
        rule.setColour(0, 1);
        due("the start is lawful", rule.lost(), 1);
    }

    private static void lostBelowNought() {
        sentence("Promise 22: Returns how many moves are lost");
        TowerBench b = bench(3, 1);
        b.aim(0, 1);
        b.move(0, 1);
        bar(b, 1);
        due("the move that is barred now would be two", b.lost(), 1 + 0 - 2);
    }

    private static void next() {
        sentence("Promise 23: Returns a move behind which the way is 1 less: 10 times the peg from which it goes, and"
                + " the peg to which it goes");
        for (int from = 0; from < 5; from++) {
            for (int to = 0; to < 5; to++) {
                TowerBench b = bench(5, 1);
                b.put(0, from);
                b.aim(0, to);
                due("next() from " + from + " to " + to, b.next(), from == to ? -1 : 10 * from + to);
            }
        }
        TowerBench b = bench(3, 3);
        int way = 7;
        for (int move : new int[] {2, 1, 21, 2, 10, 12, 2}) {
            due("next() at " + way, b.next(), move);
            move(b, move);
            way--;
            due("way() behind it", b.way(), way);
        }
        TowerBench full = new TowerBench();
        shuttle(full, 500);
        due("next() behind 500 moves", full.next(), 2);
    }

    private static void nextLowest() {
        sentence("Promise 23: of several the lowest such number");
        TowerBench b = bench(5, 2);
        for (int to = 1; to < 4; to++) {
            due("next() of several from a peg", b.next(), to);
            bar(b, to);
        }
        due("next() when all of them are barred", b.next(), 4);
        TowerBench low = bench(4, 2);
        put(low, 1, 2);
        aim(low, 0, 3);
        due("next() of 10 and 23", low.next(), 10);
        put(low, 2, 1);
        aim(low, 3, 0);
        due("next() of 23 and 10", low.next(), 10);
        TowerBench far = bench(5, 2);
        put(far, 1, 0);
        aim(far, 2, 4);
        due("next() of 4 and 12", far.next(), 4);
        bar(far, 4);
        due("next() of 2, 3 and 12", far.next(), 2);
        TowerBench lead = bench(5, 1);
        bar(lead, 10, 12, 13, 14, 24);
        due("next() past one that leads nowhere, and one that leads round", lead.next(), 4);
        bar(lead, 4);
        due("next() past one that leads nowhere, and one that leads farther round", lead.next(), 3);
    }

    private static void nextNone() {
        sentence("Promise 23: Returns the move; -1 if there is no way, or it is 0");
        TowerBench b = bench(3, 2);
        aim(b, 0, 0);
        due("next() when the way is 0", b.next(), -1);
        b.aim(0, 1);
        due("next() when the way is 1", b.next(), 1);
        bar(b, 1, 21);
        due("next() when there is none", b.next(), -1);
        TowerBench goal = bench(3, 1);
        goal.put(0, 2);
        bar(goal, 2, 12);
        due("next() at the goal, out of which a move leads to where there is no way", goal.next(), -1);
        TowerBench u = unlawful();
        u.setColour(2, 1);
        aim(u, 0, 1, 2);
        due("next() out of what is not lawful", u.next(), -1);
        TowerBench to = bench(3, 2);
        to.put(0, 1);
        to.setRule(true);
        due("next() to what is not lawful", to.next(), -1);
        aim(to, 0, 0);
        to.put(0, 0);
        due("next() when now is the goal, and not lawful", to.next(), -1);
    }

    private static void reachable() {
        sentence("Promise 24: Returns how many arrangements can be come to from that of now");
        for (int p = 3; p <= 5; p++) {
            for (int n = 1; n <= 6; n++) {
                due("all are free", bench(p, n).reachable(), power(p, n));
            }
        }
        TowerBench oneWay = bench(5, 1);
        bar(oneWay, 10, 20, 30, 40, 21, 31, 41, 32, 42, 43);
        for (int peg = 0; peg < 5; peg++) {
            oneWay.put(0, peg);
            due("only upward, from " + peg, oneWay.reachable(), 5 - peg);
        }
        TowerBench rule = bench(3, 2);
        rule.put(0, 1);
        rule.setRule(true);
        due("the lawful ones alone", rule.reachable(), 6);
        TowerBench full = new TowerBench();
        shuttle(full, 500);
        due("behind 500 moves", full.reachable(), 27);
    }

    private static void reachableItself() {
        sentence("Promise 24: itself included");
        TowerBench b = bench(5, 6);
        barAll(b);
        due("all is barred", b.reachable(), 1);
        bar(b, 1);
        allow(b, 34);
        due("only a move that can't be made is free", b.reachable(), 1);
        allow(b, 4);
        due("one move is free", b.reachable(), 2);
        TowerBench full = bench(3, 3);
        put(full, 0, 1, 2);
        full.setRule(true);
        due("no disk can move under the rule", full.reachable(), 1);
    }

    private static void reachableUnlawful() {
        sentence("Promise 24: 0 if it is not lawful");
        TowerBench b = unlawful();
        due("two of a colour on each other, with moves that mend it", b.reachable(), 0);
        b.move(1, 2);
        due("behind such a move", b.reachable(), 6);
        b.takeBack();
        b.setRule(false);
        due("without the rule", b.reachable(), 27);
        TowerBench goal = bench(3, 2);
        goal.put(0, 1);
        goal.setRule(true);
        due("the goal is not lawful", goal.reachable(), 6);
        TowerBench wide = bench(5, 6);
        put(wide, 0, 1, 2, 3, 4, 4);
        wide.setRule(true);
        due("six of one colour on five pegs", wide.reachable(), 0);
    }

    private static void splits() {
        sentence("Promise 25: disks: 0 to 20, pegs: 3 to 5");
        TowerBench b = bench(3, 1);
        due("splits(0, 3)", b.splits(0, 3), 0);
        due("splits(20, 3)", b.splits(20, 3), 1048575);
        due("splits(0, 4)", b.splits(0, 4), 0);
        due("splits(20, 4)", b.splits(20, 4), 289);
        due("splits(0, 5)", b.splits(0, 5), 0);
        due("splits(20, 5)", b.splits(20, 5), 111);
        TowerBench w = wide();
        due("splits(6, 3) on another bench", w.splits(6, 3), 63);
        due("splits(6, 4) on another bench", w.splits(6, 4), 17);
        due("splits(6, 5) on another bench", w.splits(6, 5), 15);
    }

    private static void splitsThrows() {
        sentence("Promise 25: Throws IllegalArgumentException if disks or pegs is out of range");
        TowerBench b = bench(5, 6);
        for (int disks : noneOf(21)) {
            dueThrow("splits(" + disks + ", 3)", ARGUMENT, () -> b.splits(disks, 3));
            dueThrow("splits(" + disks + ", 4)", ARGUMENT, () -> b.splits(disks, 4));
            dueThrow("splits(" + disks + ", 5)", ARGUMENT, () -> b.splits(disks, 5));
        }
        for (int pegs : new int[] {2, 6, 1, 0, -1, 7, 259, 65539, 1 << 30, Integer.MAX_VALUE, Integer.MIN_VALUE}) {
            dueThrow("splits(0, " + pegs + ")", ARGUMENT, () -> b.splits(0, pegs));
            dueThrow("splits(20, " + pegs + ")", ARGUMENT, () -> b.splits(20, pegs));
            dueThrow("splits(21, " + pegs + ")", ARGUMENT, () -> b.splits(21, pegs));
        }
        dueText("what is seen then", told(b), told(bench(5, 6)));
    }
}
