/**
 * A bench for towers of disks on pegs: any lawful arrangement can be the start and the goal, moves
 * can be barred, disks of one colour may be forbidden to touch, and a coach tells the moves lost.
 */
public final class TowerBench {
    private static final int FEWEST_PEGS = 3;
    private static final int MOST_PEGS = 5;
    private static final int FEWEST_DISKS = 1;
    private static final int MOST_DISKS = 6;
    private static final int MOST_ARRANGEMENTS = 15625;
    private static final int MOST_MOVES = 500;
    private static final int MOST_SPLIT_DISKS = 20;
    private static final int NONE = -1;

    private int pegCount;
    private int diskCount;
    private boolean ruleOn;

    /** weight[d] is the number of pegs to the power of d: weight[diskCount] counts the arrangements. */
    private final int[] weight;
    private final int[] colour;
    private final boolean[] allowed;

    /** An arrangement is held as its number, so that it can be an index of the search's rows. */
    private int now;
    private int target;

    /** trail[k] is the arrangement ahead of the move k, so the start is trail[0] once one was made. */
    private final int[] trail;
    private int moveCount;

    /** The top disk of each peg in the arrangement that was looked at last. */
    private final int[] tops;

    /** The way of each arrangement to the goal, or NONE; it holds only while measured is true. */
    private final int[] far;
    private boolean measured;

    /** Beside far, so that reachable() leaves what was measured alone. */
    private final int[] seen;
    private final int[] queue;

    private final int[] splitNumbers;

    public TowerBench() {
        weight = new int[MOST_DISKS + 1];
        colour = new int[MOST_DISKS];
        allowed = new boolean[MOST_PEGS * MOST_PEGS];
        trail = new int[MOST_MOVES];
        tops = new int[MOST_PEGS];
        far = new int[MOST_ARRANGEMENTS];
        seen = new int[MOST_ARRANGEMENTS];
        queue = new int[MOST_ARRANGEMENTS];
        splitNumbers = splitTable();
        lay(3, 3);
    }

    // ---- setting up

    public int begin(int pegs, int disks) throws IllegalArgumentException {
        if (pegs < FEWEST_PEGS || pegs > MOST_PEGS || disks < FEWEST_DISKS || disks > MOST_DISKS) {
            throw new IllegalArgumentException("pegs or disks out of range");
        }
        lay(pegs, disks);
        return weight[diskCount];
    }

    public int put(int disk, int peg) throws IndexOutOfBoundsException, IllegalStateException {
        if (!isDisk(disk) || !isPeg(peg)) {
            throw new IndexOutOfBoundsException("no such disk or peg");
        }
        if (moveCount > 0) {
            throw new IllegalStateException("a move was made");
        }
        int before = pegIn(now, disk);
        now += (peg - before) * weight[disk];
        return before;
    }

    public int aim(int disk, int peg) throws IndexOutOfBoundsException {
        if (!isDisk(disk) || !isPeg(peg)) {
            throw new IndexOutOfBoundsException("no such disk or peg");
        }
        int before = pegIn(target, disk);
        target += (peg - before) * weight[disk];
        measured = false;
        return before;
    }

    public boolean allow(int from, int to, boolean allowed)
            throws IndexOutOfBoundsException, IllegalArgumentException {
        if (!isPeg(from) || !isPeg(to)) {
            throw new IndexOutOfBoundsException("no such peg");
        }
        if (from == to) {
            throw new IllegalArgumentException("both pegs are the same");
        }
        int pair = pairOf(from, to);
        boolean before = this.allowed[pair];
        this.allowed[pair] = allowed;
        measured = false;
        return before;
    }

    public int setColour(int disk, int colour)
            throws IndexOutOfBoundsException, IllegalArgumentException {
        if (!isDisk(disk)) {
            throw new IndexOutOfBoundsException("no such disk");
        }
        if (colour < 0 || colour > 1) {
            throw new IllegalArgumentException("colour out of range");
        }
        int before = this.colour[disk];
        this.colour[disk] = colour;
        measured = false;
        return before;
    }

    public boolean setRule(boolean on) {
        boolean before = ruleOn;
        ruleOn = on;
        measured = false;
        return before;
    }

    // ---- moves

    public int move(int from, int to) throws IndexOutOfBoundsException, IllegalStateException {
        if (!isPeg(from) || !isPeg(to)) {
            throw new IndexOutOfBoundsException("no such peg");
        }
        if (moveCount >= MOST_MOVES || !isPossible(from, to)) {
            throw new IllegalStateException("the move is not possible, or too many were made");
        }
        int disk = tops[from];
        trail[moveCount] = now;
        moveCount++;
        now = behindMove(now, from, to);
        return disk;
    }

    public int takeBack() throws IllegalStateException {
        if (moveCount < 1) {
            throw new IllegalStateException("no move was made");
        }
        moveCount--;
        now = trail[moveCount];
        return moveCount;
    }

    public int layStart() {
        int made = moveCount;
        moveCount = 0;
        return made;
    }

    // ---- what there is; nothing from here on changes anything

    public int pegs() {
        return pegCount;
    }

    public int disks() {
        return diskCount;
    }

    public int moves() {
        return moveCount;
    }

    public int pegOf(int disk) throws IndexOutOfBoundsException {
        if (!isDisk(disk)) {
            throw new IndexOutOfBoundsException("no such disk");
        }
        return pegIn(now, disk);
    }

    public int top(int peg) throws IndexOutOfBoundsException {
        if (!isPeg(peg)) {
            throw new IndexOutOfBoundsException("no such peg");
        }
        readTops(now);
        return tops[peg];
    }

    public int arrangement() {
        return now;
    }

    public int goal() {
        return target;
    }

    public boolean isLawful() {
        return keepsRule(now);
    }

    public boolean canMove(int from, int to) throws IndexOutOfBoundsException {
        if (!isPeg(from) || !isPeg(to)) {
            throw new IndexOutOfBoundsException("no such peg");
        }
        return isPossible(from, to);
    }

    // ---- ways

    public int way() {
        return wayFrom(now);
    }

    public int wayByDisks() throws IllegalStateException {
        if (pegCount > 3 || ruleOn || isAnyBarred()) {
            throw new IllegalStateException("only for three free pegs without the rule of colours");
        }
        int largest = diskCount - 1;
        while (largest >= 0 && pegIn(now, largest) == pegIn(target, largest)) {
            largest--;
        }
        if (largest < 0) {
            return 0;
        }
        int from = pegIn(now, largest);
        int to = pegIn(target, largest);
        int third = thirdPeg(from, to);
        int once = gather(now, largest, third) + gather(target, largest, third) + 1;
        int twice = gather(now, largest, to) + gather(target, largest, from) + (1 << largest) + 1;
        return Math.min(once, twice);
    }

    public int lost() throws IllegalStateException {
        int wayNow = wayFrom(now);
        int wayStart = wayFrom(moveCount > 0 ? trail[0] : now);
        if (wayNow == NONE || wayStart == NONE) {
            throw new IllegalStateException("there is no way");
        }
        return moveCount + wayNow - wayStart;
    }

    public int next() {
        int rest = wayFrom(now);
        if (rest < 1) {
            return NONE;
        }
        for (int from = 0; from < pegCount; from++) {
            for (int to = 0; to < pegCount; to++) {
                if (isPossible(from, to) && wayFrom(behindMove(now, from, to)) == rest - 1) {
                    return 10 * from + to;
                }
            }
        }
        return NONE;
    }

    public int reachable() {
        return search(now, seen, false);
    }

    public int splits(int disks, int pegs) throws IllegalArgumentException {
        if (disks < 0 || disks > MOST_SPLIT_DISKS || pegs < FEWEST_PEGS || pegs > MOST_PEGS) {
            throw new IllegalArgumentException("disks or pegs out of range");
        }
        return splitNumbers[splitIndex(disks, pegs)];
    }

    // ---- the bench

    /** Lays out a bench anew; pegs and disks are in range. */
    private void lay(int pegs, int disks) {
        pegCount = pegs;
        diskCount = disks;
        int power = 1;
        for (int disk = 0; disk < weight.length; disk++) {
            weight[disk] = power;
            power *= pegs;
        }
        for (int disk = 0; disk < colour.length; disk++) {
            colour[disk] = 0;
        }
        for (int pair = 0; pair < allowed.length; pair++) {
            allowed[pair] = true;
        }
        ruleOn = false;
        now = 0;
        // The highest number is the one in which each disk is on the last peg.
        target = weight[diskCount] - 1;
        moveCount = 0;
        measured = false;
    }

    private boolean isPeg(int peg) {
        return peg >= 0 && peg < pegCount;
    }

    private boolean isDisk(int disk) {
        return disk >= 0 && disk < diskCount;
    }

    private boolean isNumber(int number) {
        return number >= 0 && number < weight[diskCount];
    }

    private static int pairOf(int from, int to) {
        return from * MOST_PEGS + to;
    }

    private boolean isAnyBarred() {
        for (int pair = 0; pair < allowed.length; pair++) {
            if (!allowed[pair]) {
                return true;
            }
        }
        return false;
    }

    // ---- arrangements by their numbers

    private int pegIn(int number, int disk) {
        int unit = weight[disk];
        if (unit < 1 || pegCount < 1) {
            return 0;
        }
        return number / unit % pegCount;
    }

    /** The next larger disk on the same peg, or NONE. */
    private int diskBelow(int number, int disk) {
        int peg = pegIn(number, disk);
        for (int larger = disk + 1; larger < diskCount; larger++) {
            if (pegIn(number, larger) == peg) {
                return larger;
            }
        }
        return NONE;
    }

    private boolean mayLieOn(int disk, int below) {
        return !ruleOn || below == NONE || colour[disk] != colour[below];
    }

    private boolean keepsRule(int number) {
        for (int disk = 0; disk < diskCount; disk++) {
            if (!mayLieOn(disk, diskBelow(number, disk))) {
                return false;
            }
        }
        return true;
    }

    private void readTops(int number) {
        for (int peg = 0; peg < tops.length; peg++) {
            tops[peg] = NONE;
        }
        for (int disk = diskCount - 1; disk >= 0; disk--) {
            int peg = pegIn(number, disk);
            if (isPeg(peg)) {
                tops[peg] = disk;
            }
        }
    }

    // ---- moves between arrangements; the tops were read ahead of these

    private boolean fits(int from, int to) {
        int disk = tops[from];
        int below = tops[to];
        return from != to && disk != NONE && (below == NONE || below > disk);
    }

    /** The number behind a move that fits. */
    private int behindMove(int number, int from, int to) {
        int disk = tops[from];
        if (!isDisk(disk)) {
            return number;
        }
        return number + (to - from) * weight[disk];
    }

    /** Whether the move can be made now; the whole arrangement is looked at, as now may be unlawful. */
    private boolean isPossible(int from, int to) {
        readTops(now);
        return fits(from, to) && allowed[pairOf(from, to)] && keepsRule(behindMove(now, from, to));
    }

    /**
     * Whether the search may step from a lawful arrangement to its neighbour: only the disk that is
     * moved can come to touch another one there. Backward, the move goes from to to from.
     */
    private boolean isStep(int from, int to, boolean backward) {
        if (!fits(from, to)) {
            return false;
        }
        int pair = backward ? pairOf(to, from) : pairOf(from, to);
        return allowed[pair] && mayLieOn(tops[from], tops[to]);
    }

    // ---- the search

    private int wayFrom(int number) {
        if (!measured) {
            search(target, far, true);
            measured = true;
        }
        return isNumber(number) ? far[number] : NONE;
    }

    /** Tells in steps the moves between origin and each arrangement, and returns how many it found. */
    private int search(int origin, int[] steps, boolean backward) {
        for (int number = 0; number < weight[diskCount] && number < steps.length; number++) {
            steps[number] = NONE;
        }
        if (!isNumber(origin) || !keepsRule(origin)) {
            return 0;
        }
        steps[origin] = 0;
        queue[0] = origin;
        int found = 1;
        for (int head = 0; head < found && head < queue.length; head++) {
            found = searchFrom(queue[head], steps, backward, found);
        }
        return found;
    }

    /** Queues the neighbours that were not found yet, and returns how many are found then. */
    private int searchFrom(int number, int[] steps, boolean backward, int foundBefore) {
        int found = foundBefore;
        readTops(number);
        for (int from = 0; from < pegCount; from++) {
            for (int to = 0; to < pegCount; to++) {
                if (isStep(from, to, backward)) {
                    int neighbour = behindMove(number, from, to);
                    if (isNumber(neighbour) && steps[neighbour] == NONE && found < queue.length) {
                        steps[neighbour] = steps[number] + 1;
                        queue[found] = neighbour;
                        found++;
                    }
                }
            }
        }
        return found;
    }

    // ---- disk by disk, and the splits

    private static int thirdPeg(int one, int other) {
        return 3 - one - other;
    }

    /** The fewest moves, on three pegs, that bring the disks 0 to count - 1 onto a peg. */
    private int gather(int number, int count, int peg) {
        int goesTo = peg;
        int sum = 0;
        for (int disk = count - 1; disk >= 0; disk--) {
            int lies = pegIn(number, disk);
            if (lies != goesTo) {
                goesTo = thirdPeg(lies, goesTo);
                sum += 1 << disk;
            }
        }
        return sum;
    }

    private static int splitIndex(int disks, int pegs) {
        return (pegs - FEWEST_PEGS) * (MOST_SPLIT_DISKS + 1) + disks;
    }

    private static int[] splitTable() {
        int[] table = new int[splitIndex(MOST_SPLIT_DISKS, MOST_PEGS) + 1];
        for (int pegs = FEWEST_PEGS; pegs <= MOST_PEGS; pegs++) {
            for (int disks = 0; disks <= MOST_SPLIT_DISKS; disks++) {
                table[splitIndex(disks, pegs)] = splitNumber(table, disks, pegs);
            }
        }
        return table;
    }

    /** The number for splits; the table holds those for fewer disks and for fewer pegs. */
    private static int splitNumber(int[] table, int disks, int pegs) {
        if (pegs == FEWEST_PEGS) {
            return (1 << disks) - 1;
        }
        if (disks < 2) {
            return disks;
        }
        int least = Integer.MAX_VALUE;
        for (int k = 1; k < disks; k++) {
            int number = 2 * table[splitIndex(k, pegs)] + table[splitIndex(disks - k, pegs - 1)];
            least = Math.min(least, number);
        }
        return least;
    }
}
