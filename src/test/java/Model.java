import java.util.ArrayList;
import java.util.Arrays;
import java.util.HashMap;
import java.util.List;
import java.util.Map;

/**
 * The document's words once more, as plainly as can be and otherwise than in TowerBench: pegs as
 * lists of disks, and a search that goes forward from the arrangement asked for.
 */
final class Model {
    int pegs;
    int disks;
    List<Integer> now;
    List<Integer> goal;
    List<List<Integer>> before = new ArrayList<>();
    boolean[][] barred;
    int[] colours;
    boolean rule;
    private final Map<Integer, Integer> splitsKnown = new HashMap<>();

    Model() {
        begin(3, 3);
    }

    int begin(int p, int n) {
        if (p < 3 || p > 5 || n < 1 || n > 6) {
            throw new IllegalArgumentException();
        }
        pegs = p;
        disks = n;
        now = new ArrayList<>();
        goal = new ArrayList<>();
        int all = 1;
        for (int d = 0; d < n; d++) {
            now.add(0);
            goal.add(p - 1);
            all *= p;
        }
        before.clear();
        barred = new boolean[p][p];
        colours = new int[n];
        rule = false;
        return all;
    }

    int put(int disk, int peg) {
        needDisk(disk);
        needPeg(peg);
        need(before.isEmpty());
        return now.set(disk, peg);
    }

    int aim(int disk, int peg) {
        needDisk(disk);
        needPeg(peg);
        return goal.set(disk, peg);
    }

    boolean allow(int from, int to, boolean allowed) {
        needPeg(from);
        needPeg(to);
        if (from == to) {
            throw new IllegalArgumentException();
        }
        boolean was = !barred[from][to];
        barred[from][to] = !allowed;
        return was;
    }

    int setColour(int disk, int colour) {
        needDisk(disk);
        if (colour != 0 && colour != 1) {
            throw new IllegalArgumentException();
        }
        int was = colours[disk];
        colours[disk] = colour;
        return was;
    }

    boolean setRule(boolean on) {
        boolean was = rule;
        rule = on;
        return was;
    }

    int move(int from, int to) {
        needPeg(from);
        needPeg(to);
        List<Integer> behind = behind(now, from, to);
        need(behind != null && before.size() < 500);
        int disk = top(from);
        before.add(now);
        now = behind;
        return disk;
    }

    int takeBack() {
        need(!before.isEmpty());
        now = before.remove(before.size() - 1);
        return before.size();
    }

    int layStart() {
        int made = before.size();
        before.clear();
        return made;
    }

    int pegOf(int disk) {
        needDisk(disk);
        return now.get(disk);
    }

    int top(int peg) {
        needPeg(peg);
        return now.indexOf(peg);
    }

    boolean canMove(int from, int to) {
        needPeg(from);
        needPeg(to);
        return behind(now, from, to) != null;
    }

    int way() {
        return way(now);
    }

    int wayByDisks() {
        need(pegs == 3 && !rule);
        for (boolean[] row : barred) {
            for (boolean b : row) {
                need(!b);
            }
        }
        return byDisks(now, goal, disks);
    }

    int lost() {
        int here = way(now);
        int start = way(before.isEmpty() ? now : before.get(0));
        need(here >= 0 && start >= 0);
        return before.size() + here - start;
    }

    int next() {
        int here = way(now);
        for (int move = 0; here > 0 && move < 45; move++) {
            if (move / 10 < pegs && move % 10 < pegs) {
                List<Integer> behind = behind(now, move / 10, move % 10);
                if (behind != null && way(behind) == here - 1) {
                    return move;
                }
            }
        }
        return -1;
    }

    int reachable() {
        return lawful(now) ? steps(now, null).size() : 0;
    }

    int splits(int m, int q) {
        if (m < 0 || m > 20 || q < 3 || q > 5) {
            throw new IllegalArgumentException();
        }
        return split(m, q);
    }

    /** The number by the sum that the terms tell. */
    int number(List<Integer> arrangement) {
        double sum = 0;
        for (int d = 0; d < disks; d++) {
            sum += arrangement.get(d) * Math.pow(pegs, d);
        }
        return (int) sum;
    }

    boolean lawful(List<Integer> arrangement) {
        if (!rule) {
            return true;
        }
        for (List<Integer> tower : towers(arrangement)) {
            for (int k = 1; k < tower.size(); k++) {
                if (colours[tower.get(k - 1)] == colours[tower.get(k)]) {
                    return false;
                }
            }
        }
        return true;
    }

    /** The disks of each peg, the smallest one first. */
    private List<List<Integer>> towers(List<Integer> arrangement) {
        List<List<Integer>> towers = new ArrayList<>();
        for (int peg = 0; peg < pegs; peg++) {
            towers.add(new ArrayList<>());
        }
        for (int d = 0; d < disks; d++) {
            towers.get(arrangement.get(d)).add(d);
        }
        return towers;
    }

    /** The arrangement behind a move, or null if the move is not possible. */
    private List<Integer> behind(List<Integer> arrangement, int from, int to) {
        List<List<Integer>> towers = towers(arrangement);
        if (from == to || barred[from][to] || towers.get(from).isEmpty()) {
            return null;
        }
        int disk = towers.get(from).get(0);
        if (!towers.get(to).isEmpty() && towers.get(to).get(0) < disk) {
            return null;
        }
        List<Integer> behind = new ArrayList<>(arrangement);
        behind.set(disk, to);
        return lawful(behind) ? behind : null;
    }

    private int way(List<Integer> origin) {
        if (!lawful(origin) || !lawful(goal)) {
            return -1;
        }
        Integer found = steps(origin, goal).get(goal);
        return found == null ? -1 : found;
    }

    /** How far each arrangement is from the origin, up to the one looked for. */
    private Map<List<Integer>, Integer> steps(List<Integer> origin, List<Integer> looked) {
        Map<List<Integer>, Integer> steps = new HashMap<>();
        List<List<Integer>> queue = new ArrayList<>();
        steps.put(origin, 0);
        queue.add(origin);
        for (int head = 0; head < queue.size() && !steps.containsKey(looked); head++) {
            List<Integer> a = queue.get(head);
            for (int from = 0; from < pegs; from++) {
                for (int to = 0; to < pegs; to++) {
                    List<Integer> b = behind(a, from, to);
                    if (b != null && !steps.containsKey(b)) {
                        steps.put(b, steps.get(a) + 1);
                        queue.add(b);
                    }
                }
            }
        }
        return steps;
    }

    private int gather(List<Integer> a, int m, int peg) {
        if (m == 0) {
            return 0;
        }
        int lies = a.get(m - 1);
        if (lies == peg) {
            return gather(a, m - 1, peg);
        }
        return gather(a, m - 1, 3 - lies - peg) + (int) Math.pow(2, m - 1);
    }

    private int byDisks(List<Integer> a, List<Integer> b, int m) {
        if (m == 0) {
            return 0;
        }
        int f = a.get(m - 1);
        int t = b.get(m - 1);
        if (f == t) {
            return byDisks(a, b, m - 1);
        }
        int u = 3 - f - t;
        int once = gather(a, m - 1, u) + gather(b, m - 1, u) + 1;
        int twice = gather(a, m - 1, t) + gather(b, m - 1, f) + (int) Math.pow(2, m - 1) + 1;
        return Math.min(once, twice);
    }

    private int split(int m, int q) {
        if (q == 3) {
            return (int) Math.pow(2, m) - 1;
        }
        if (m <= 1) {
            return m;
        }
        Integer known = splitsKnown.get(10 * m + q);
        if (known != null) {
            return known;
        }
        int[] all = new int[m - 1];
        for (int k = 1; k <= m - 1; k++) {
            all[k - 1] = 2 * split(k, q) + split(m - k, q - 1);
        }
        int least = Arrays.stream(all).min().getAsInt();
        splitsKnown.put(10 * m + q, least);
        return least;
    }

    private void needDisk(int disk) {
        if (disk < 0 || disk >= disks) {
            throw new IndexOutOfBoundsException();
        }
    }

    private void needPeg(int peg) {
        if (peg < 0 || peg >= pegs) {
            throw new IndexOutOfBoundsException();
        }
    }

    private static void need(boolean holds) {
        if (!holds) {
            throw new IllegalStateException();
        }
    }
}
