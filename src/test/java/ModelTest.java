import java.util.function.LongSupplier;

/** Long runs of calls, the same ones each time, on a TowerBench and on the plain Model beside it. */
public final class ModelTest {
    private static final int CALLS = 512;

    private final Check check;
    private final int run;
    private final TowerBench bench = new TowerBench();
    private final Model model = new Model();
    private long seed;
    private int call = 0;

    private ModelTest(Check check, int run) {
        this.check = check;
        this.run = run;
        this.seed = run * 7919L + 17;
    }

    public static void main(String[] args) {
        Check check = new Check("ModelTest");
        for (int run = 0; run < 400; run++) {
            // The model's searches are slow, so few runs have the large benches.
            int mostDisks = run % 40 == 0 ? 6 : run % 4 == 0 ? 4 : 3;
            new ModelTest(check, run).play(mostDisks);
        }
        check.end();
    }

    private void play(int mostDisks) {
        if (run % 8 != 0) {
            begin(3 + below(3), 1 + below(mostDisks));
        }
        int searches = mostDisks == 6 ? 20 : CALLS;
        // Some runs keep to one bench, so that many moves come together.
        boolean steady = run % 5 == 0;
        while (call < CALLS - 5) {
            int kind = below(100);
            if (kind < 24) {
                setUp(mostDisks, steady);
            } else if (kind < 62) {
                moveOn();
            } else if (kind < 80) {
                look();
            } else if (searches > 0) {
                searches--;
                coach();
            }
            state();
        }
        while (call < CALLS) {
            look();
        }
    }

    private int below(int bound) {
        seed = seed * 6364136223846793005L + 1442695040888963407L;
        return (int) ((seed >>> 33) % bound);
    }

    /** Mostly one that there is, now and then one just beside them or far off. */
    private int near(int count) {
        int chance = below(40);
        if (chance == 0) {
            return -1;
        }
        if (chance == 1) {
            return count;
        }
        if (chance == 2) {
            return below(2) == 0 ? Integer.MIN_VALUE : Integer.MAX_VALUE;
        }
        return below(count);
    }

    private void same(String name, LongSupplier got, LongSupplier want) {
        call++;
        String wanted = answer(want);
        check.dueText("run " + run + ", call " + call + ", " + name, answer(got), wanted);
    }

    private static String answer(LongSupplier supplier) {
        try {
            return "" + supplier.getAsLong();
        } catch (RuntimeException e) {
            return e.getClass().getSimpleName();
        }
    }

    private static long bit(boolean b) {
        return b ? 1 : 0;
    }

    private void begin(int p, int n) {
        same("begin " + p + " " + n, () -> bench.begin(p, n), () -> model.begin(p, n));
    }

    private void setUp(int mostDisks, boolean steady) {
        int disk = near(model.disks);
        int peg = near(model.pegs);
        int to = near(model.pegs);
        boolean on = below(3) > 0;
        switch (below(steady ? 12 : 13)) {
            case 0, 1, 2, 3 -> same("put", () -> bench.put(disk, peg), () -> model.put(disk, peg));
            case 4, 5 -> same("aim", () -> bench.aim(disk, peg), () -> model.aim(disk, peg));
            case 6, 7, 8 -> same("allow", () -> bit(bench.allow(peg, to, on)),
                    () -> bit(model.allow(peg, to, on)));
            case 9, 10 -> {
                int colour = near(2);
                same("setColour", () -> bench.setColour(disk, colour), () -> model.setColour(disk, colour));
            }
            case 11 -> same("setRule", () -> bit(bench.setRule(!on)), () -> bit(model.setRule(!on)));
            default -> begin(below(9) == 0 ? 2 + below(5) : 3 + below(3), below(mostDisks + 1) + below(2));
        }
    }

    private void moveOn() {
        int from = near(model.pegs);
        int to = near(model.pegs);
        int chance = below(30);
        if (chance == 0) {
            same("layStart", bench::layStart, model::layStart);
        } else if (chance < 5) {
            same("takeBack", bench::takeBack, model::takeBack);
        } else {
            same("move", () -> bench.move(from, to), () -> model.move(from, to));
        }
    }

    private void look() {
        int disk = near(model.disks);
        int peg = near(model.pegs);
        int to = near(model.pegs);
        switch (below(5)) {
            case 0 -> same("pegOf", () -> bench.pegOf(disk), () -> model.pegOf(disk));
            case 1 -> same("top", () -> bench.top(peg), () -> model.top(peg));
            case 2 -> same("canMove", () -> bit(bench.canMove(peg, to)), () -> bit(model.canMove(peg, to)));
            case 3 -> same("goal", bench::goal, () -> model.number(model.goal));
            default -> {
                int m = near(21);
                int q = below(9) == 0 ? near(6) : 3 + below(3);
                same("splits", () -> bench.splits(m, q), () -> model.splits(m, q));
            }
        }
    }

    private void coach() {
        switch (below(5)) {
            case 0 -> same("way", bench::way, model::way);
            case 1 -> same("wayByDisks", bench::wayByDisks, model::wayByDisks);
            case 2 -> same("lost", bench::lost, model::lost);
            case 3 -> same("next", bench::next, model::next);
            default -> same("reachable", bench::reachable, model::reachable);
        }
    }

    /** One of the plain answers behind each call, so that a change that was not due is seen soon. */
    private void state() {
        switch (below(6)) {
            case 0 -> same("pegs", bench::pegs, () -> model.pegs);
            case 1 -> same("disks", bench::disks, () -> model.disks);
            case 2 -> same("moves", bench::moves, () -> model.before.size());
            case 3 -> same("isLawful", () -> bit(bench.isLawful()), () -> bit(model.lawful(model.now)));
            default -> same("arrangement", bench::arrangement, () -> model.number(model.now));
        }
    }
}
