/** The sentences of "What it is" and "Terms" that name an edge, each with a test of its own. */
public final class EdgeTermsTest extends Edge {
    public static void main(String[] args) {
        start("EdgeTermsTest");
        test(EdgeTermsTest::lastCall);
        test(EdgeTermsTest::towersBySplits);
        test(EdgeTermsTest::anyStartAndGoal);
        test(EdgeTermsTest::pegsOfABench);
        test(EdgeTermsTest::disksOfABench);
        test(EdgeTermsTest::smallestDisk);
        test(EdgeTermsTest::towersBySize);
        test(EdgeTermsTest::numbers);
        test(EdgeTermsTest::coloursAtFirst);
        test(EdgeTermsTest::ruleAtFirst);
        test(EdgeTermsTest::directlyOnEachOther);
        test(EdgeTermsTest::withoutTheRule);
        test(EdgeTermsTest::allowedAtFirst);
        test(EdgeTermsTest::barredOneWay);
        test(EdgeTermsTest::topDisk);
        test(EdgeTermsTest::ontoEmptyOrLarger);
        test(EdgeTermsTest::mustBeAllowed);
        test(EdgeTermsTest::lawfulBehindAMove);
        test(EdgeTermsTest::begun);
        test(EdgeTermsTest::putAnywhere);
        test(EdgeTermsTest::takenBack);
        test(EdgeTermsTest::startOfMoves);
        test(EdgeTermsTest::wayThatIsNone);
        test(EdgeTermsTest::lawfulBetween);
        test(EdgeTermsTest::movesLost);
        test(EdgeTermsTest::noDisksToGather);
        test(EdgeTermsTest::leftAside);
        test(EdgeTermsTest::onceOrTwice);
        test(EdgeTermsTest::splitsOnThreePegs);
        test(EdgeTermsTest::splitsOfFewDisks);
        test(EdgeTermsTest::splitsOverAllK);
        end();
    }

    private static void lastCall() {
        sentence("An object is used for at most 512 calls after it has been made");
        TowerBench b = new TowerBench();
        shuttle(b, 500);
        for (int call = 501; call < 512; call++) {
            due("call " + call + ", moves()", b.moves(), 500);
        }
        due("call 512, takeBack()", b.takeBack(), 499);
        TowerBench dear = new TowerBench();
        for (int call = 1; call < 512; call += 2) {
            due("call " + call + ", begin(5, 6)", dear.begin(5, 6), 15625);
            due("call " + (call + 1) + ", way()", dear.way(), 15);
        }
    }

    private static void towersBySplits() {
        sentence("for whole towers on more pegs by the best splits");
        for (int p = 3; p <= 5; p++) {
            for (int n = 1; n <= 6; n++) {
                TowerBench b = bench(p, n);
                due("way() of " + n + " disks on " + p + " pegs", b.way(), b.splits(n, p));
            }
        }
    }

    private static void anyStartAndGoal() {
        sentence("any lawful arrangement can be the start and the goal");
        for (int start = 0; start < 27; start++) {
            TowerBench b = new TowerBench();
            put(b, start % 3, start / 3 % 3, start / 9);
            for (int goal = 0; goal < 27; goal++) {
                aim(b, goal % 3, goal / 3 % 3, goal / 9);
                due("arrangement()", b.arrangement(), start);
                due("goal()", b.goal(), goal);
                due("a way from " + start + " to " + goal, b.way() >= 0, true);
                due("way() of " + start + " to " + goal, b.way() == 0, start == goal);
                due("next() of " + start + " to " + goal, b.next() == -1, start == goal);
            }
        }
    }

    private static void pegsOfABench() {
        sentence("The pegs are 0 to p - 1, p being 3 to 5");
        TowerBench b = new TowerBench();
        for (int p = 5; p >= 3; p--) {
            b.begin(p, 2);
            for (int peg = 0; peg < p; peg++) {
                int other = (peg + 1) % p;
                b.put(0, peg);
                due("pegOf(0)", b.pegOf(0), peg);
                b.aim(0, peg);
                due("goal()", b.goal(), peg + (p - 1) * p);
                due("allow from " + peg, b.allow(peg, other, true), true);
                due("canMove from " + peg, b.canMove(peg, other), true);
                due("top(" + peg + ")", b.top(peg), 0);
                due("move from " + peg, b.move(peg, other), 0);
                b.takeBack();
            }
            for (int peg : new int[] {-1, p}) {
                dueThrow("put(0, " + peg + ")", INDEX, () -> b.put(0, peg));
                dueThrow("aim(0, " + peg + ")", INDEX, () -> b.aim(0, peg));
                dueThrow("allow from " + peg, INDEX, () -> b.allow(peg, 0, true));
                dueThrow("allow to " + peg, INDEX, () -> b.allow(0, peg, true));
                dueThrow("canMove from " + peg, INDEX, () -> b.canMove(peg, 0));
                dueThrow("canMove to " + peg, INDEX, () -> b.canMove(0, peg));
                dueThrow("top(" + peg + ")", INDEX, () -> b.top(peg));
                dueThrow("move from " + peg, INDEX, () -> b.move(peg, 0));
                dueThrow("move to " + peg, INDEX, () -> b.move(0, peg));
            }
        }
    }

    private static void disksOfABench() {
        sentence("the disks are 0 to n - 1, n being 1 to 6");
        TowerBench b = new TowerBench();
        for (int n = 6; n >= 1; n--) {
            b.begin(3, n);
            for (int d = 0; d < n; d++) {
                due("put(" + d + ", 1)", b.put(d, 1), 0);
                due("pegOf(" + d + ")", b.pegOf(d), 1);
                due("aim(" + d + ", 1)", b.aim(d, 1), 2);
                due("setColour(" + d + ", 1)", b.setColour(d, 1), 0);
            }
            for (int d : new int[] {-1, n}) {
                dueThrow("put(" + d + ", 1)", INDEX, () -> b.put(d, 1));
                dueThrow("pegOf(" + d + ")", INDEX, () -> b.pegOf(d));
                dueThrow("aim(" + d + ", 1)", INDEX, () -> b.aim(d, 1));
                dueThrow("setColour(" + d + ", 1)", INDEX, () -> b.setColour(d, 1));
            }
        }
    }

    private static void smallestDisk() {
        sentence("the disk 0 being the smallest");
        TowerBench b = bench(3, 6);
        put(b, 0, 1, 1, 1, 1, 1);
        due("0 onto 1 to 5", b.canMove(0, 1), true);
        due("1 to 5 onto 0", b.canMove(1, 0), false);
        put(b, 1, 1, 1, 1, 1, 0);
        due("0 to 4 onto 5", b.canMove(1, 0), true);
        due("5 onto 0 to 4", b.canMove(0, 1), false);
    }

    private static void towersBySize() {
        sentence("On each peg the disks lie by size, the smallest one on top");
        for (int p = 3; p <= 5; p++) {
            for (int peg = 0; peg < p; peg++) {
                int other = peg == 0 ? 1 : 0;
                TowerBench b = bench(p, 6);
                put(b, other, other, other, other, other, other);
                due("the top of an empty peg", b.top(peg), -1);
                for (int d = 0; d < 6; d++) {
                    b.put(d, peg);
                    due("the top when larger ones are put below", b.top(peg), 0);
                    due("the top of the rest", b.top(other), d == 5 ? -1 : d + 1);
                }
                for (int d = 0; d < 6; d++) {
                    b.put(d, other);
                    due("the top behind the smaller ones", b.top(peg), d == 5 ? -1 : d + 1);
                }
            }
        }
    }

    private static void numbers() {
        sentence("its number is the sum of the peg of the disk d, times p to the power of d, over all disks");
        for (int p = 3; p <= 5; p++) {
            for (int n = 1; n <= 6; n++) {
                TowerBench b = bench(p, n);
                int highest = power(p, n) - 1;
                due("the lowest arrangement()", b.arrangement(), 0);
                due("the highest goal()", b.goal(), highest);
                for (int d = 0; d < n; d++) {
                    for (int peg = 0; peg < p; peg++) {
                        b.put(d, peg);
                        due("one disk away, arrangement()", b.arrangement(), peg * power(p, d));
                        b.aim(d, peg);
                        due("one disk away, goal()", b.goal(), highest - (p - 1 - peg) * power(p, d));
                    }
                    b.put(d, 0);
                }
                for (int d = 0; d < n; d++) {
                    b.put(d, p - 1);
                    b.aim(d, 0);
                }
                due("the highest arrangement()", b.arrangement(), highest);
                due("the lowest goal()", b.goal(), 0);
            }
        }
    }

    private static void coloursAtFirst() {
        sentence("Each disk has a colour, 0 or 1, at first 0");
        for (int n = 1; n <= 6; n++) {
            TowerBench b = bench(4, n);
            for (int d = 0; d < n; d++) {
                due("setColour(" + d + ", 1) at first", b.setColour(d, 1), 0);
                due("setColour(" + d + ", 0) then", b.setColour(d, 0), 1);
            }
        }
        TowerBench b = new TowerBench();
        for (int d = 0; d < 3; d++) {
            due("setColour(" + d + ", 1) on a new object", b.setColour(d, 1), 0);
        }
    }

    private static void ruleAtFirst() {
        sentence("With the rule of colours (off at first)");
        TowerBench fresh = new TowerBench();
        due("isLawful() on a new object, all of one colour", fresh.isLawful(), true);
        due("setRule(true) on a new object", fresh.setRule(true), false);
        TowerBench b = bench(5, 6);
        due("isLawful() on a bench, all of one colour", b.isLawful(), true);
        due("setRule(true) on a bench", b.setRule(true), false);
    }

    private static void directlyOnEachOther() {
        sentence("no two disks of the same colour may lie directly one on the other");
        TowerBench b = bench(3, 6);
        b.setRule(true);
        colour(b, 0, 1, 0, 1, 0, 1);
        due("in turns", b.isLawful(), true);
        for (int d = 0; d < 6; d++) {
            b.setColour(d, d % 2 == 0 ? 1 : 0);
            due("only the disk " + d + " is out of turn", b.isLawful(), false);
            b.setColour(d, d % 2);
        }
        colour(b, 0, 0, 1, 0, 1, 0);
        due("the two at the top are 0", b.isLawful(), false);
        colour(b, 1, 1, 0, 1, 0, 1);
        due("the two at the top are 1", b.isLawful(), false);
        colour(b, 0, 1, 0, 1, 0, 0);
        due("the two at the bottom are 0", b.isLawful(), false);
        colour(b, 1, 0, 1, 0, 1, 1);
        due("the two at the bottom are 1", b.isLawful(), false);
        TowerBench three = bench(3, 3);
        three.setRule(true);
        put(three, 0, 1, 0);
        due("0 on 2, a size between them", three.isLawful(), false);
        put(three, 0, 1, 2);
        due("one disk on each peg, all of one colour", three.isLawful(), true);
        put(three, 2, 2, 2);
        three.setColour(1, 1);
        due("one of the other colour between two of a colour", three.isLawful(), true);
        TowerBench full = bench(5, 6);
        full.setRule(true);
        put(full, 0, 1, 2, 3, 4, 4);
        due("six of one colour on five pegs", full.isLawful(), false);
        full.setColour(5, 1);
        due("but one on the other colour", full.isLawful(), true);
    }

    private static void withoutTheRule() {
        sentence("Without the rule each arrangement is lawful");
        TowerBench b = bench(3, 3);
        for (int number = 0; number < 27; number++) {
            put(b, number % 3, number / 3 % 3, number / 9);
            due("isLawful() of " + number, b.isLawful(), true);
        }
        put(b, 0, 0, 0);
        b.setRule(true);
        due("with the rule", b.isLawful(), false);
        b.setRule(false);
        due("without it again", b.isLawful(), true);
    }

    private static void allowedAtFirst() {
        sentence("From each peg to each other one it is allowed to move, or barred; at first all is allowed");
        for (int p = 3; p <= 5; p++) {
            TowerBench b = bench(p, 1);
            for (int from = 0; from < p; from++) {
                b.put(0, from);
                for (int to = 0; to < p; to++) {
                    if (from != to) {
                        due("canMove(" + from + ", " + to + ") at first", b.canMove(from, to), true);
                        due("allow(" + from + ", " + to + ", false) at first", b.allow(from, to, false), true);
                        due("canMove(" + from + ", " + to + ") then", b.canMove(from, to), false);
                    }
                }
            }
        }
        TowerBench b = new TowerBench();
        for (int pair : new int[] {1, 2, 10, 12, 20, 21}) {
            due("allowed on a new object: " + pair, b.allow(pair / 10, pair % 10, true), true);
        }
    }

    private static void barredOneWay() {
        sentence("From each peg to each other one it is allowed to move, or barred");
        for (int p = 3; p <= 5; p++) {
            for (int barred = 0; barred < p * p; barred++) {
                if (barred / p != barred % p) {
                    TowerBench b = bench(p, 1);
                    b.allow(barred / p, barred % p, false);
                    for (int pair = 0; pair < p * p; pair++) {
                        b.put(0, pair / p);
                        due("canMove(" + pair / p + ", " + pair % p + ")", b.canMove(pair / p, pair % p),
                                pair != barred && pair / p != pair % p);
                    }
                }
            }
        }
    }

    private static void topDisk() {
        sentence("A move takes the top disk of a peg to another peg");
        TowerBench b = bench(3, 3);
        due("the top of three", b.move(0, 2), 0);
        due("the top of two", b.move(0, 1), 1);
        due("only that one is on the other peg", b.arrangement(), 2 + 3);
        due("the smaller one onto the larger one", b.move(2, 1), 0);
        due("the last one of a peg", b.move(0, 2), 2);
        due("the peg is empty then", b.top(0), -1);
        dueThrow("from the empty peg", STATE, () -> b.move(0, 2));
        dueThrow("to the peg itself", STATE, () -> b.move(1, 1));
    }

    private static void ontoEmptyOrLarger() {
        sentence("which must be empty or have a larger disk on top");
        TowerBench b = bench(3, 6);
        for (int d = 0; d < 6; d++) {
            for (int other = 0; other < 6; other++) {
                if (d != other) {
                    put(b, 2, 2, 2, 2, 2, 2);
                    b.put(d, 0);
                    due(d + " onto the empty peg", b.canMove(0, 1), true);
                    b.put(other, 1);
                    due(d + " onto " + other, b.canMove(0, 1), other > d);
                }
            }
        }
        TowerBench c = bench(3, 3);
        put(c, 1, 0, 1);
        due("1 onto 2 with 0 on top", c.canMove(0, 1), false);
        put(c, 1, 0, 0);
        due("1 onto the empty peg, from a larger one", c.canMove(0, 2), true);
    }

    private static void mustBeAllowed() {
        sentence("it must be allowed");
        TowerBench b = bench(3, 2);
        bar(b, 1);
        due("barred", b.canMove(0, 1), false);
        dueThrow("barred", STATE, () -> b.move(0, 1));
        due("beside the barred one", b.move(0, 2), 0);
        bar(b, 20);
        dueThrow("barred onto a larger disk", STATE, () -> b.move(2, 0));
        allow(b, 20);
        due("allowed again", b.move(2, 0), 0);
    }

    private static void lawfulBehindAMove() {
        sentence("and the arrangement behind it must be lawful");
        TowerBench b = bench(3, 3);
        put(b, 0, 1, 2);
        b.setRule(true);
        due("0 onto 1, both 0", b.canMove(0, 1), false);
        dueThrow("0 onto 1, both 0", STATE, () -> b.move(0, 1));
        colour(b, 1, 1, 1);
        dueThrow("0 onto 1, both 1", STATE, () -> b.move(0, 1));
        b.setColour(1, 0);
        due("0 onto 1 of the other colour", b.move(0, 1), 0);
        due("0 onto the empty peg", b.move(1, 0), 0);
        TowerBench tower = bench(3, 4);
        tower.setRule(true);
        tower.setColour(0, 1);
        due("two of a colour stay on each other at the bottom", tower.canMove(0, 1), false);
        colour(tower, 0, 0, 1, 0);
        due("the upper one of two of a colour goes", tower.canMove(0, 1), true);
        put(tower, 0, 0, 1, 2);
        due("it goes onto the other colour", tower.canMove(0, 1), true);
        due("it goes onto the same colour", tower.canMove(0, 2), false);
        due("another one goes while they stay", tower.canMove(1, 2), false);
    }

    private static void begun() {
        sentence("When a bench is begun, all disks are on the peg 0, and in the goal all are on the peg p - 1");
        for (int p = 3; p <= 5; p++) {
            for (int n = 1; n <= 6; n++) {
                TowerBench b = bench(5, 6);
                put(b, 4, 3, 2, 1, 0, 4);
                aim(b, 0, 1, 2, 3, 0, 1);
                b.begin(p, n);
                for (int d = 0; d < n; d++) {
                    due("pegOf(" + d + ")", b.pegOf(d), 0);
                    due("aim(" + d + ", 0), the peg before", b.aim(d, 0), p - 1);
                }
                due("goal() behind that", b.goal(), 0);
                due("arrangement()", b.arrangement(), 0);
            }
        }
    }

    private static void putAnywhere() {
        sentence("While no move was made since the bench was begun or the start was laid, disks can be put anywhere");
        TowerBench b = new TowerBench();
        due("on a new object", b.put(0, 2), 0);
        due("a larger one onto a smaller one", b.put(2, 2), 0);
        barAll(b);
        due("to where moves are barred", b.put(0, 1), 2);
        b.setRule(true);
        due("to where it is not lawful", b.put(1, 2), 0);
        due("from under the others", b.put(2, 0), 2);
        due("below the others", b.put(2, 2), 0);
        due("what is not lawful", b.isLawful(), false);
        b.setRule(false);
        allow(b, 10);
        b.move(1, 0);
        dueThrow("behind a move", STATE, () -> b.put(0, 2));
        b.layStart();
        due("behind the start", b.put(0, 2), 0);
        allow(b, 20);
        b.move(2, 0);
        dueThrow("behind a move from there", STATE, () -> b.put(0, 2));
        b.begin(5, 6);
        due("since the bench was begun", b.put(5, 4), 0);
    }

    private static void takenBack() {
        sentence("Moves that were taken back count as not made");
        TowerBench b = bench(3, 3);
        move(b, 1, 2, 12);
        b.takeBack();
        due("moves() behind one of three", b.moves(), 2);
        dueThrow("put behind one of three", STATE, () -> b.put(0, 2));
        b.takeBack();
        dueThrow("put behind two of three", STATE, () -> b.put(0, 2));
        b.takeBack();
        due("moves() behind three of three", b.moves(), 0);
        due("put behind three of three", b.put(0, 2), 0);
        due("lost() behind three of three", b.lost(), 0);
        dueThrow("takeBack() behind three of three", STATE, () -> b.takeBack());
        TowerBench full = new TowerBench();
        shuttle(full, 500);
        full.takeBack();
        due("a move behind 500, less one", full.move(1, 0), 0);
        due("moves()", full.moves(), 500);
    }

    private static void startOfMoves() {
        sentence("The start is the arrangement ahead of the first move");
        TowerBench b = bench(3, 3);
        b.put(2, 2);
        move(b, 1, 12);
        due("lost() from the start that was put", b.lost(), 2 + 3 - 3);
        b.takeBack();
        b.takeBack();
        put(b, 2, 2, 0);
        due("lost() ahead of the first move", b.lost(), 0);
        move(b, 21, 10);
        due("lost() from the start that was put then", b.lost(), 2 + 6 - 7);
        b.layStart();
        due("lost() from the start that was laid", b.lost(), 0);
        b.move(0, 1);
        due("lost() a move behind it", b.lost(), 1 + 7 - 6);
        b.begin(3, 1);
        b.move(0, 1);
        due("lost() from the start of another bench", b.lost(), 1);
    }

    private static void wayThatIsNone() {
        sentence("there may be none, and there is none if the arrangement of now or the goal is not lawful");
        TowerBench b = bench(3, 1);
        barAll(b);
        due("all is barred", b.way(), -1);
        b.put(0, 2);
        due("all is barred at the goal", b.way(), 0);
        TowerBench c = bench(3, 2);
        c.setRule(true);
        due("neither is lawful", c.way(), -1);
        c.put(0, 1);
        due("the goal is not lawful", c.way(), -1);
        c.aim(0, 0);
        due("both are lawful", c.way(), 2);
        c.put(0, 0);
        due("now is not lawful", c.way(), -1);
        c.aim(1, 0);
        due("now is the goal, and not lawful", c.way(), -1);
        c.setColour(0, 1);
        due("now is the goal, and lawful", c.way(), 0);
        TowerBench full = bench(3, 3);
        put(full, 0, 1, 2);
        full.setRule(true);
        full.aim(0, 0);
        full.aim(1, 1);
        due("full of one colour, at the goal", full.way(), 0);
        full.aim(0, 1);
        full.aim(1, 0);
        due("full of one colour, no disk can move", full.way(), -1);
    }

    private static void lawfulBetween() {
        sentence("the fewest moves from the arrangement of now to the goal, all arrangements between being lawful");
        TowerBench b = bench(3, 3);
        b.setColour(1, 1);
        put(b, 2, 2, 0);
        due("without the rule", b.way(), 7);
        b.setRule(true);
        due("0 may not lie on 2", b.way(), 9);
        due("reachable()", b.reachable(), 21);
        TowerBench c = bench(3, 2);
        put(c, 0, 1);
        aim(c, 1, 1);
        due("a smaller one onto a larger one", c.way(), 1);
        aim(c, 1, 0);
        due("two of one colour change places", c.way(), 3);
        c.setRule(true);
        due("and do so with the rule", c.way(), 3);
        TowerBench d = bench(3, 3);
        put(d, 0, 1, 2);
        aim(d, 1, 0, 2);
        due("two change places beside a third one", d.way(), 3);
        d.setRule(true);
        due("but not if none may lie on it", d.way(), -1);
        d.setColour(0, 1);
        d.aim(2, 1);
        d.aim(0, 2);
        due("round, the smallest one of another colour", d.way(), 5);
    }

    private static void movesLost() {
        sentence("Moves lost are the moves made, and the way from the arrangement of now, less the way from the start");
        TowerBench b = bench(3, 3);
        due("no move", b.lost(), 0);
        move(b, 2, 1, 21, 2, 10, 12, 2);
        due("the best moves", b.lost(), 0);
        b.move(2, 0);
        due("one back from the goal", b.lost(), 8 + 1 - 7);
        TowerBench full = new TowerBench();
        shuttle(full, 500);
        due("500 moves for nothing", full.lost(), 500);
        TowerBench away = bench(3, 3);
        put(away, 2, 2, 2);
        away.move(2, 0);
        due("away from the goal", away.lost(), 1 + 1);
        away.move(0, 2);
        due("back at the goal, from which the start was", away.lost(), 2);
    }

    private static void noDisksToGather() {
        sentence("with no disks 0");
        TowerBench b = bench(3, 1);
        for (int from = 0; from < 3; from++) {
            for (int to = 0; to < 3; to++) {
                b.put(0, from);
                b.aim(0, to);
                due("one disk from " + from + " to " + to, b.wayByDisks(), from == to ? 0 : 1);
            }
        }
    }

    private static void leftAside() {
        sentence("as long as the largest disk is on the same peg in both, it is left aside");
        for (int peg = 0; peg < 3; peg++) {
            TowerBench b = bench(3, 6);
            put(b, peg, peg, peg, peg, peg, peg);
            aim(b, peg, peg, peg, peg, peg, peg);
            due("all on the same peg", b.wayByDisks(), 0);
            for (int d = 0; d < 6; d++) {
                b.aim(d, (peg + 1) % 3);
                due("those up to " + d + " go", b.wayByDisks(), power(2, d + 1) - 1);
            }
            b.aim(0, peg);
            due("one that stays above one that goes", b.wayByDisks(), 1 + 62);
        }
    }

    private static void onceOrTwice() {
        sentence("The lesser one counts");
        TowerBench b = bench(3, 3);
        put(b, 1, 1, 0);
        aim(b, 1, 1, 2);
        due("once 1, twice 11", b.wayByDisks(), 1);
        put(b, 2, 2, 0);
        aim(b, 0, 0, 2);
        due("once 7, twice 5", b.wayByDisks(), 5);
        put(b, 2, 1, 0);
        aim(b, 0, 0, 2);
        due("once 1 + 3 + 1, twice 3 + 0 + 5", b.wayByDisks(), 5);
        put(b, 2, 1, 0);
        aim(b, 2, 0, 2);
        due("once 1 + 2 + 1, twice 3 + 1 + 5", b.wayByDisks(), 4);
        put(b, 1, 2, 0);
        aim(b, 0, 0, 2);
        due("once 3 + 3 + 1, twice 1 + 0 + 5", b.wayByDisks(), 6);
        put(b, 2, 2, 0);
        aim(b, 1, 0, 2);
        due("once 3 + 3 + 1, twice 0 + 1 + 5", b.wayByDisks(), 6);
        put(b, 0, 2, 0);
        aim(b, 0, 0, 2);
        due("once 2 + 3 + 1, twice 1 + 0 + 5", b.wayByDisks(), 6);
        TowerBench two = bench(3, 2);
        put(two, 2, 0);
        aim(two, 0, 2);
        due("once 3, twice 3", two.wayByDisks(), 3);
    }

    private static void splitsOnThreePegs() {
        sentence("The number for m disks on q pegs is 2 to the power of m, less 1, on 3 pegs");
        TowerBench b = new TowerBench();
        due("splits(0, 3)", b.splits(0, 3), 0);
        due("splits(1, 3)", b.splits(1, 3), 1);
        due("splits(2, 3)", b.splits(2, 3), 3);
        due("splits(19, 3)", b.splits(19, 3), 524287);
        due("splits(20, 3)", b.splits(20, 3), 1048575);
    }

    private static void splitsOfFewDisks() {
        sentence("on more pegs it is 0 without disks, 1 for one disk");
        TowerBench b = new TowerBench();
        due("splits(0, 4)", b.splits(0, 4), 0);
        due("splits(0, 5)", b.splits(0, 5), 0);
        due("splits(1, 4)", b.splits(1, 4), 1);
        due("splits(1, 5)", b.splits(1, 5), 1);
    }

    private static void splitsOverAllK() {
        sentence("the least of 2 times the number for k disks on q pegs, and the number for m - k disks on q - 1"
                + " pegs, over all k from 1 to m - 1");
        TowerBench b = new TowerBench();
        for (int q = 4; q <= 5; q++) {
            due("k is 1 alone", b.splits(2, q), 3);
            for (int m = 2; m <= 20; m++) {
                int least = Integer.MAX_VALUE;
                for (int k = 1; k <= m - 1; k++) {
                    int number = 2 * b.splits(k, q) + b.splits(m - k, q - 1);
                    due("splits(" + m + ", " + q + ") is above none", b.splits(m, q) <= number, true);
                    least = Math.min(least, number);
                }
                due("splits(" + m + ", " + q + ") is one of them", b.splits(m, q), least);
                b = new TowerBench();
            }
        }
        due("splits(3, 4), the least with k 1", b.splits(3, 4), 5);
        due("splits(20, 4)", b.splits(20, 4), 289);
        due("splits(20, 5)", b.splits(20, 5), 111);
    }
}
