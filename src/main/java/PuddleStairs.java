/** A staircase of puddles. */
public final class PuddleStairs {
    private static final int MAX_FLIGHTS = 8;
    private static final int MAX_STEPS = 16;
    private static final int MAX_PUDDLES = MAX_FLIGHTS * MAX_STEPS;
    private static final int FIRST_FLIGHTS = 4;
    private static final int FIRST_STEPS = 8;
    private static final int FIRST_SUN = 1;
    private static final int FIRST_EDGE = 50;
    private static final int MAX_SUN = 9;
    private static final int MAX_EDGE = 999;
    private static final int MAX_RAIN = 99;
    private static final int MAX_BAIL = 999;
    private static final int MAX_HOURS = 40;
    private static final int MAX_DEEDS = 30;
    private static final int MAX_MARKS = 12;
    private static final int LONGEST_LOOK_AHEAD = 60;
    private static final int HIGHEST_TRIED_EDGE = 300;
    private static final int TRIED_EDGE_GAP = 10;
    private static final long DIGEST_START = 2281;
    private static final long DIGEST_FACTOR = 31;

    private final Water water = new Water();
    /** What would be is tried out here, so that the water itself is left alone. */
    private final Water trial = new Water();
    private final Rows deedRows = new Rows(MAX_DEEDS);
    private final Rows markRows = new Rows(MAX_MARKS);
    private final FlightPairs flightPairs = new FlightPairs();
    private int hourCount;
    private long goneInAll;

    public PuddleStairs() {
        water.sunNow = FIRST_SUN;
        water.layDry(FIRST_FLIGHTS, FIRST_STEPS);
    }

    // ---- deeds

    public int lay(int flights, int steps) throws IllegalArgumentException {
        checkNumber(flights, 1, MAX_FLIGHTS);
        checkNumber(steps, 1, MAX_STEPS);
        water.layDry(flights, steps);
        deedRows.clearAll();
        markRows.clearAll();
        return water.puddleCount();
    }

    public int rain(int flight, int step, int drops) throws IndexOutOfBoundsException, IllegalArgumentException {
        checkPuddle(flight, step);
        checkNumber(drops, -MAX_RAIN, MAX_RAIN);
        keepDeed();
        water.add(flight, step, drops);
        return water.level(flight, step);
    }

    public int splash(int fromFlight, int fromStep, int toFlight, int toStep, int drops) throws IndexOutOfBoundsException, IllegalArgumentException {
        checkPart(fromFlight, fromStep, toFlight, toStep);
        checkNumber(drops, -MAX_RAIN, MAX_RAIN);
        keepDeed();
        for (int flight = fromFlight; flight <= toFlight; flight++) {
            for (int step = fromStep; step <= toStep; step++) {
                water.add(flight, step, drops);
            }
        }
        return (toFlight - fromFlight + 1) * (toStep - fromStep + 1);
    }

    public int swap(int one, int other) throws IndexOutOfBoundsException {
        checkFlight(one);
        checkFlight(other);
        keepDeed();
        int changed = water.stepCount - water.alikeSteps(one, other);
        for (int step = 0; step < water.stepCount; step++) {
            water.exchange(water.numberOf(one, step), water.numberOf(other, step));
        }
        return changed;
    }

    public int turn(int flight) throws IndexOutOfBoundsException {
        checkFlight(flight);
        keepDeed();
        int first = water.numberOf(flight, 0);
        int last = water.numberOf(flight, water.stepCount - 1);
        while (first < last) {
            water.exchange(first, last);
            first++;
            last--;
        }
        return water.changedFrom(deedRows.row(deedRows.count - 1));
    }

    public int bail(int flight, int drops) throws IndexOutOfBoundsException, IllegalArgumentException {
        checkFlight(flight);
        checkNumber(drops, 1, MAX_BAIL);
        keepDeed();
        int bailed = 0;
        for (int step = 0; step < water.stepCount; step++) {
            int wetness = Math.max(0, water.level(flight, step));
            int taken = Math.min(wetness, drops - bailed);
            water.add(flight, step, -taken);
            bailed += taken;
        }
        return bailed;
    }

    public int passHours(int hours) throws IllegalArgumentException {
        checkNumber(hours, 1, MAX_HOURS);
        keepDeed();
        int over = water.flowFor(hours);
        hourCount += hours;
        goneInAll += over;
        return over;
    }

    public int mark() throws IllegalStateException {
        if (markRows.count >= MAX_MARKS) {
            throw new IllegalStateException("there are 12 marks");
        }
        markRows.addLatest(water);
        return markRows.count - 1;
    }

    public int back(int mark) throws IndexOutOfBoundsException {
        checkMark(mark);
        keepDeed();
        return water.takeFrom(markRows.row(mark));
    }

    public int undo() throws IllegalStateException {
        if (deedRows.count < 1) {
            throw new IllegalStateException("no deed is kept");
        }
        int changed = water.takeFrom(deedRows.row(deedRows.count - 1));
        deedRows.dropLatest();
        return changed;
    }

    public int setSun(int sun) throws IllegalArgumentException {
        checkNumber(sun, 0, MAX_SUN);
        int before = water.sunNow;
        water.sunNow = sun;
        return before;
    }

    public int setEdge(int step, int edge) throws IndexOutOfBoundsException, IllegalArgumentException {
        checkStep(step);
        checkNumber(edge, 0, MAX_EDGE);
        int before = water.edges[step];
        water.edges[step] = edge;
        return before;
    }

    // ---- the staircase

    public int flights() {
        return water.flightCount;
    }

    public int steps() {
        return water.stepCount;
    }

    public int hours() {
        return hourCount;
    }

    public int sun() {
        return water.sunNow;
    }

    public int edgeOf(int step) throws IndexOutOfBoundsException {
        checkStep(step);
        return water.edges[step];
    }

    public int marks() {
        return markRows.count;
    }

    public int deeds() {
        return deedRows.count;
    }

    public long gone() {
        return goneInAll;
    }

    // ---- sums

    public int levelAt(int flight, int step) throws IndexOutOfBoundsException {
        checkPuddle(flight, step);
        return water.level(flight, step);
    }

    public long sumOf(int fromFlight, int fromStep, int toFlight, int toStep) throws IndexOutOfBoundsException, IllegalArgumentException {
        checkPart(fromFlight, fromStep, toFlight, toStep);
        return water.partSum(fromFlight, fromStep, toFlight, toStep);
    }

    public long sumTo(int flight, int step) throws IndexOutOfBoundsException {
        checkPuddle(flight, step);
        return water.partSum(0, 0, flight, step);
    }

    public long flightSum(int flight) throws IndexOutOfBoundsException {
        checkFlight(flight);
        return water.partSum(flight, 0, flight, water.stepCount - 1);
    }

    public long stepSum(int step) throws IndexOutOfBoundsException {
        checkStep(step);
        return water.partSum(0, step, water.flightCount - 1, step);
    }

    public long total() {
        return water.wholeSum();
    }

    public int firstReaching(int flight, int drops) throws IndexOutOfBoundsException {
        checkFlight(flight);
        long sum = 0;
        for (int step = 0; step < water.stepCount; step++) {
            sum += water.level(flight, step);
            if (sum >= drops) {
                return step;
            }
        }
        return -1;
    }

    public long bestRun(int flight) throws IndexOutOfBoundsException {
        checkFlight(flight);
        long best = water.level(flight, 0);
        long endingHere = best;
        for (int step = 1; step < water.stepCount; step++) {
            endingHere = Math.max(0, endingHere) + water.level(flight, step);
            best = Math.max(best, endingHere);
        }
        return best;
    }

    // ---- dry ones

    public int dryIn(int fromFlight, int fromStep, int toFlight, int toStep) throws IndexOutOfBoundsException, IllegalArgumentException {
        checkPart(fromFlight, fromStep, toFlight, toStep);
        return water.dryInPart(fromFlight, fromStep, toFlight, toStep);
    }

    public int dry() {
        return water.upToLevel(0);
    }

    public int dryAt(int place) throws IndexOutOfBoundsException {
        int dryAhead = 0;
        for (int number = 0; number < water.puddleCount(); number++) {
            if (water.levels[number] <= 0) {
                if (dryAhead == place) {
                    return number;
                }
                dryAhead++;
            }
        }
        throw new IndexOutOfBoundsException("there are not so many dry puddles");
    }

    public int longestDry(int flight) throws IndexOutOfBoundsException {
        checkFlight(flight);
        int longest = 0;
        int endingHere = 0;
        for (int step = 0; step < water.stepCount; step++) {
            endingHere = water.level(flight, step) <= 0 ? endingHere + 1 : 0;
            longest = Math.max(longest, endingHere);
        }
        return longest;
    }

    public int driestFlight() {
        int driest = 0;
        int most = -1;
        for (int flight = 0; flight < water.flightCount; flight++) {
            int count = water.dryInPart(flight, 0, flight, water.stepCount - 1);
            if (count > most) {
                most = count;
                driest = flight;
            }
        }
        return driest;
    }

    // ---- levels in order

    public int lowestIn(int fromFlight, int fromStep, int toFlight, int toStep) throws IndexOutOfBoundsException, IllegalArgumentException {
        checkPart(fromFlight, fromStep, toFlight, toStep);
        int lowest = water.level(fromFlight, fromStep);
        for (int flight = fromFlight; flight <= toFlight; flight++) {
            for (int step = fromStep; step <= toStep; step++) {
                lowest = Math.min(lowest, water.level(flight, step));
            }
        }
        return lowest;
    }

    public int highestAt(int flight) throws IndexOutOfBoundsException {
        checkFlight(flight);
        int highest = 0;
        for (int step = 1; step < water.stepCount; step++) {
            if (water.level(flight, step) > water.level(flight, highest)) {
                highest = step;
            }
        }
        return highest;
    }

    public int upTo(int level) {
        return water.upToLevel(level);
    }

    public int levelInOrder(int place) throws IndexOutOfBoundsException {
        checkIndex(place, water.puddleCount());
        int found = water.highest();
        for (int number = 0; number < water.puddleCount(); number++) {
            int level = water.levels[number];
            if (level < found && water.upToLevel(level) > place) {
                found = level;
            }
        }
        return found;
    }

    public int outOfOrder() {
        flightPairs.countIn(water);
        return flightPairs.outWithSwap(0, 0);
    }

    public int alike(int one, int other) throws IndexOutOfBoundsException {
        checkFlight(one);
        checkFlight(other);
        return water.alikeSteps(one, other);
    }

    public int changedSince(int mark) throws IndexOutOfBoundsException {
        checkMark(mark);
        return water.changedFrom(markRows.row(mark));
    }

    // ---- what would be

    public long totalIn(int hours) throws IllegalArgumentException {
        checkNumber(hours, 1, MAX_HOURS);
        trial.copyFrom(water);
        trial.flowFor(hours);
        return trial.wholeSum();
    }

    public int goneIn(int hours) throws IllegalArgumentException {
        checkNumber(hours, 1, MAX_HOURS);
        trial.copyFrom(water);
        return trial.flowFor(hours);
    }

    public int hoursUntilDry() {
        trial.copyFrom(water);
        for (int hour = 0; hour < LONGEST_LOOK_AHEAD; hour++) {
            if (trial.allDry()) {
                return hour;
            }
            trial.flowOneHour();
        }
        return trial.allDry() ? LONGEST_LOOK_AHEAD : -1;
    }

    public int sunWanted(int hours) throws IllegalArgumentException {
        checkNumber(hours, 1, MAX_HOURS);
        for (int sun = 0; sun <= MAX_SUN; sun++) {
            trial.copyFrom(water);
            trial.sunNow = sun;
            trial.flowFor(hours);
            if (trial.allDry()) {
                return sun;
            }
        }
        return -1;
    }

    public int bestEdge(int step, int hours) throws IndexOutOfBoundsException, IllegalArgumentException {
        checkStep(step);
        checkNumber(hours, 1, MAX_HOURS);
        int best = 0;
        int least = goneWithEdge(step, 0, hours);
        // Less than nothing never goes over: so the first edge with 0 is the one.
        for (int edge = TRIED_EDGE_GAP; edge <= HIGHEST_TRIED_EDGE && least > 0; edge += TRIED_EDGE_GAP) {
            int over = goneWithEdge(step, edge, hours);
            if (over < least) {
                least = over;
                best = edge;
            }
        }
        return best;
    }

    public int bestSwap(int flight) throws IndexOutOfBoundsException {
        checkFlight(flight);
        flightPairs.countIn(water);
        return flightPairs.bestPartner(flight);
    }

    public double meanLevel() {
        int count = water.puddleCount();
        return count < 1 ? 0.0 : (double) water.wholeSum() / count;
    }

    public long digest() {
        long d = digested(DIGEST_START, flights());
        d = digested(d, steps());
        d = digested(d, hours());
        d = digested(d, sun());
        d = digested(d, marks());
        d = digested(d, deeds());
        d = digested(d, gone());
        d = digested(d, total());
        d = digested(d, dry());
        d = digested(d, driestFlight());
        d = digested(d, outOfOrder());
        d = digested(d, hoursUntilDry());
        d = digested(d, totalIn(3));
        d = digested(d, goneIn(3));
        d = digested(d, sunWanted(5));
        d = digestedFlights(d);
        d = digestedSteps(d);
        return digestedMarks(d);
    }

    private int goneWithEdge(int step, int edge, int hours) {
        trial.copyFrom(water);
        trial.edges[step] = edge;
        return trial.flowFor(hours);
    }

    private static long digested(long d, long x) {
        return d * DIGEST_FACTOR + x;
    }

    private long digestedFlights(long start) {
        long d = start;
        flightPairs.countIn(water);
        for (int flight = 0; flight < water.flightCount; flight++) {
            d = digested(d, flightSum(flight));
            d = digested(d, bestRun(flight));
            d = digested(d, longestDry(flight));
            d = digested(d, highestAt(flight));
            d = digested(d, flightPairs.bestPartner(flight));
            for (int step = 0; step < water.stepCount; step++) {
                d = digested(d, water.level(flight, step));
            }
        }
        return d;
    }

    private long digestedSteps(long start) {
        long d = start;
        for (int step = 0; step < water.stepCount; step++) {
            d = digested(d, edgeOf(step));
            d = digested(d, stepSum(step));
        }
        return d;
    }

    private long digestedMarks(long start) {
        long d = start;
        for (int mark = 0; mark < markRows.count; mark++) {
            d = digested(d, changedSince(mark));
        }
        return d;
    }

    private void keepDeed() {
        deedRows.addLatest(water);
    }

    // ---- checks of arguments

    private static void checkIndex(int index, int count) {
        if (index < 0 || index >= count) {
            throw new IndexOutOfBoundsException("there is no such number");
        }
    }

    private static void checkNumber(int number, int least, int most) {
        if (number < least || number > most) {
            throw new IllegalArgumentException("the number is too small or too great");
        }
    }

    private void checkFlight(int flight) {
        checkIndex(flight, water.flightCount);
    }

    private void checkStep(int step) {
        checkIndex(step, water.stepCount);
    }

    private void checkMark(int mark) {
        checkIndex(mark, markRows.count);
    }

    private void checkPuddle(int flight, int step) {
        checkFlight(flight);
        checkStep(step);
    }

    private void checkPart(int fromFlight, int fromStep, int toFlight, int toStep) {
        checkPuddle(fromFlight, fromStep);
        checkPuddle(toFlight, toStep);
        if (fromFlight > toFlight || fromStep > toStep) {
            throw new IllegalArgumentException("the first one is greater than the last one");
        }
    }

    /** All levels, and what the sun and the edges do to them. */
    private static final class Water {
        private final int[] levels = new int[MAX_PUDDLES];
        private final int[] edges = new int[MAX_STEPS];
        private int flightCount;
        private int stepCount;
        private int sunNow;

        void layDry(int flightsLaid, int stepsLaid) {
            flightCount = Math.max(1, Math.min(flightsLaid, MAX_FLIGHTS));
            stepCount = Math.max(1, Math.min(stepsLaid, MAX_STEPS));
            for (int number = 0; number < levels.length; number++) {
                levels[number] = 0;
            }
            for (int step = 0; step < edges.length; step++) {
                edges[step] = FIRST_EDGE;
            }
        }

        void copyFrom(Water other) {
            flightCount = other.flightCount;
            stepCount = other.stepCount;
            sunNow = other.sunNow;
            for (int number = 0; number < puddleCount(); number++) {
                levels[number] = other.levels[number];
            }
            for (int step = 0; step < stepCount; step++) {
                edges[step] = other.edges[step];
            }
        }

        int puddleCount() {
            return flightCount * stepCount;
        }

        int numberOf(int flight, int step) {
            return flight * stepCount + step;
        }

        int level(int flight, int step) {
            return levels[numberOf(flight, step)];
        }

        void add(int flight, int step, int drops) {
            levels[numberOf(flight, step)] += drops;
        }

        void exchange(int one, int other) {
            int level = levels[one];
            levels[one] = levels[other];
            levels[other] = level;
        }

        int changedFrom(int[] row) {
            int changed = 0;
            for (int number = 0; number < puddleCount(); number++) {
                if (levels[number] != row[number]) {
                    changed++;
                }
            }
            return changed;
        }

        /** Answers how many levels are others then. */
        int takeFrom(int[] row) {
            int changed = changedFrom(row);
            for (int number = 0; number < puddleCount(); number++) {
                levels[number] = row[number];
            }
            return changed;
        }

        int alikeSteps(int one, int other) {
            int count = 0;
            for (int step = 0; step < stepCount; step++) {
                if (level(one, step) == level(other, step)) {
                    count++;
                }
            }
            return count;
        }

        long partSum(int fromFlight, int fromStep, int toFlight, int toStep) {
            long sum = 0;
            for (int flight = fromFlight; flight <= toFlight; flight++) {
                for (int step = fromStep; step <= toStep; step++) {
                    sum += level(flight, step);
                }
            }
            return sum;
        }

        long wholeSum() {
            return partSum(0, 0, flightCount - 1, stepCount - 1);
        }

        int dryInPart(int fromFlight, int fromStep, int toFlight, int toStep) {
            int count = 0;
            for (int flight = fromFlight; flight <= toFlight; flight++) {
                for (int step = fromStep; step <= toStep; step++) {
                    if (level(flight, step) <= 0) {
                        count++;
                    }
                }
            }
            return count;
        }

        int upToLevel(int level) {
            int count = 0;
            for (int number = 0; number < puddleCount(); number++) {
                if (levels[number] <= level) {
                    count++;
                }
            }
            return count;
        }

        int highest() {
            int highest = levels[0];
            for (int number = 1; number < puddleCount(); number++) {
                highest = Math.max(highest, levels[number]);
            }
            return highest;
        }

        boolean allDry() {
            return upToLevel(0) == puddleCount();
        }

        /** Answers how much goes over the last edge. */
        int flowFor(int hours) {
            int over = 0;
            for (int hour = 0; hour < hours; hour++) {
                over += flowOneHour();
            }
            return over;
        }

        int flowOneHour() {
            dryUp();
            return runDown();
        }

        private void dryUp() {
            int count = puddleCount();
            for (int number = 0; number < count; number++) {
                int level = levels[number];
                if (level > 0) {
                    levels[number] = Math.max(0, level - sunNow);
                }
            }
        }

        /** Answers what runs over the last edge: what is left running behind the last puddle. */
        private int runDown() {
            int running = 0;
            for (int flight = 0; flight < flightCount; flight++) {
                int first = numberOf(flight, 0);
                for (int step = 0; step < stepCount; step++) {
                    int level = levels[first + step] + running;
                    running = Math.max(0, level - edges[step]);
                    levels[first + step] = level - running;
                }
            }
            return running;
        }
    }

    /** Levels as they were, the oldest row first; where no more go in, the oldest row makes room. */
    private static final class Rows {
        private final int[][] rows;
        private int oldest;
        private int count;

        Rows(int limit) {
            rows = new int[Math.max(1, limit)][MAX_PUDDLES];
        }

        void clearAll() {
            oldest = 0;
            count = 0;
        }

        int[] row(int place) {
            int slot = oldest + place;
            return rows[slot < rows.length ? slot : slot - rows.length];
        }

        void addLatest(Water water) {
            if (count < rows.length) {
                count++;
            } else {
                oldest = oldest + 1 < rows.length ? oldest + 1 : 0;
            }
            int[] latest = row(count - 1);
            for (int number = 0; number < water.puddleCount(); number++) {
                latest[number] = water.levels[number];
            }
        }

        void dropLatest() {
            count--;
        }
    }

    /**
     * Counts pairs out of order flight against flight: so each swap of flights
     * is judged by these counts, without going over all pairs of puddles again.
     */
    private static final class FlightPairs {
        private final int[][] higherAhead = new int[MAX_FLIGHTS][MAX_FLIGHTS];
        private int flightCount;

        void countIn(Water water) {
            flightCount = water.flightCount;
            for (int ahead = 0; ahead < flightCount; ahead++) {
                for (int behind = 0; behind < flightCount; behind++) {
                    higherAhead[ahead][behind] = countOf(water, ahead, behind);
                }
            }
        }

        private static int countOf(Water water, int ahead, int behind) {
            int count = 0;
            for (int step = 0; step < water.stepCount; step++) {
                int level = water.level(ahead, step);
                for (int later = ahead == behind ? step + 1 : 0; later < water.stepCount; later++) {
                    if (level > water.level(behind, later)) {
                        count++;
                    }
                }
            }
            return count;
        }

        int outWithSwap(int one, int other) {
            int count = 0;
            for (int ahead = 0; ahead < flightCount; ahead++) {
                for (int behind = ahead; behind < flightCount; behind++) {
                    count += higherAhead[swapped(ahead, one, other)][swapped(behind, one, other)];
                }
            }
            return count;
        }

        private static int swapped(int flight, int one, int other) {
            if (flight == one) {
                return other;
            }
            return flight == other ? one : flight;
        }

        int bestPartner(int flight) {
            int best = 0;
            int fewest = outWithSwap(flight, 0);
            for (int other = 1; other < flightCount; other++) {
                int count = outWithSwap(flight, other);
                if (count < fewest) {
                    fewest = count;
                    best = other;
                }
            }
            return best;
        }
    }
}
