import java.util.ArrayList;
import java.util.Arrays;
import java.util.List;

/**
 * The document written down a second time, by other ways than the class's own:
 * one row of levels, copied whenever something is tried, and sorted, swapped and counted outright.
 */
final class Model {
    private int flights = 4;
    private int steps = 8;
    private int hours = 0;
    private int sun = 1;
    private long gone = 0;
    private int[] levels = new int[32];
    private int[] edges = filled(8);
    private final List<int[]> deeds = new ArrayList<>();
    private final List<int[]> marks = new ArrayList<>();

    private static int[] filled(int steps) {
        int[] edges = new int[steps];
        Arrays.fill(edges, 50);
        return edges;
    }

    private static void index(boolean there) {
        if (!there) {
            throw new IndexOutOfBoundsException();
        }
    }

    private static void argument(boolean fits) {
        if (!fits) {
            throw new IllegalArgumentException();
        }
    }

    private boolean isFlight(int flight) {
        return flight >= 0 && flight < flights;
    }

    private boolean isStep(int step) {
        return step >= 0 && step < steps;
    }

    /** Which puddles a part has, by their numbers. */
    private List<Integer> part(int a, int b, int c, int d) {
        index(isFlight(a) && isStep(b) && isFlight(c) && isStep(d));
        argument(a <= c && b <= d);
        return numbers(a, b, c, d);
    }

    private List<Integer> numbers(int a, int b, int c, int d) {
        List<Integer> numbers = new ArrayList<>();
        for (int number = 0; number < levels.length; number++) {
            int flight = number / steps;
            int step = number % steps;
            if (flight >= a && flight <= c && step >= b && step <= d) {
                numbers.add(number);
            }
        }
        return numbers;
    }

    private int[] flightLevels(int flight) {
        return Arrays.copyOfRange(levels, flight * steps, flight * steps + steps);
    }

    private void deed() {
        deeds.add(levels.clone());
        if (deeds.size() > 30) {
            deeds.remove(0);
        }
    }

    private static int others(int[] one, int[] other) {
        int count = 0;
        for (int number = 0; number < one.length; number++) {
            count += one[number] == other[number] ? 0 : 1;
        }
        return count;
    }

    /** One hour for a row of levels; answers what is gone. */
    private int hour(int[] row, int[] edgesThen, int sunThen) {
        for (int number = 0; number < row.length; number++) {
            if (row[number] > 0) {
                row[number] = row[number] < sunThen ? 0 : row[number] - sunThen;
            }
        }
        for (int number = 0; number < row.length; number++) {
            int edge = edgesThen[number % steps];
            if (row[number] > edge) {
                int over = row[number] - edge;
                row[number] = edge;
                if (number + 1 == row.length) {
                    return over;
                }
                row[number + 1] += over;
            }
        }
        return 0;
    }

    private int hoursOf(int[] row, int[] edgesThen, int sunThen, int count) {
        int over = 0;
        for (int hour = 0; hour < count; hour++) {
            over += hour(row, edgesThen, sunThen);
        }
        return over;
    }

    private static boolean allDry(int[] row) {
        return Arrays.stream(row).allMatch(level -> level <= 0);
    }

    private static int pairsOut(int[] row) {
        int count = 0;
        for (int behind = 1; behind < row.length; behind++) {
            for (int ahead = 0; ahead < behind; ahead++) {
                count += row[ahead] > row[behind] ? 1 : 0;
            }
        }
        return count;
    }

    private int[] swappedRow(int one, int other) {
        int[] row = levels.clone();
        System.arraycopy(levels, one * steps, row, other * steps, steps);
        System.arraycopy(levels, other * steps, row, one * steps, steps);
        return row;
    }

    int lay(int f, int s) {
        argument(f >= 1 && f <= 8 && s >= 1 && s <= 16);
        flights = f;
        steps = s;
        levels = new int[f * s];
        edges = filled(s);
        deeds.clear();
        marks.clear();
        return levels.length;
    }

    int rain(int f, int s, int drops) {
        index(isFlight(f) && isStep(s));
        argument(drops >= -99 && drops <= 99);
        deed();
        return levels[f * steps + s] += drops;
    }

    int splash(int a, int b, int c, int d, int drops) {
        List<Integer> part = part(a, b, c, d);
        argument(drops >= -99 && drops <= 99);
        deed();
        part.forEach(number -> levels[number] += drops);
        return part.size();
    }

    int swap(int one, int other) {
        index(isFlight(one) && isFlight(other));
        deed();
        int[] before = flightLevels(one);
        levels = swappedRow(one, other);
        return others(before, flightLevels(one));
    }

    int turn(int f) {
        index(isFlight(f));
        deed();
        int[] before = flightLevels(f);
        for (int step = 0; step < steps; step++) {
            levels[f * steps + step] = before[steps - 1 - step];
        }
        return others(before, flightLevels(f));
    }

    int bail(int f, int drops) {
        index(isFlight(f));
        argument(drops >= 1 && drops <= 999);
        deed();
        int left = drops;
        for (int number = f * steps; number < f * steps + steps; number++) {
            while (levels[number] > 0 && left > 0) {
                levels[number]--;
                left--;
            }
        }
        return drops - left;
    }

    int passHours(int count) {
        argument(count >= 1 && count <= 40);
        deed();
        int over = hoursOf(levels, edges, sun, count);
        hours += count;
        gone += over;
        return over;
    }

    int mark() {
        if (marks.size() == 12) {
            throw new IllegalStateException();
        }
        marks.add(levels.clone());
        return marks.size() - 1;
    }

    int back(int mark) {
        index(mark >= 0 && mark < marks.size());
        deed();
        int changed = others(levels, marks.get(mark));
        levels = marks.get(mark).clone();
        return changed;
    }

    int undo() {
        if (deeds.isEmpty()) {
            throw new IllegalStateException();
        }
        int[] row = deeds.remove(deeds.size() - 1);
        int changed = others(levels, row);
        levels = row;
        return changed;
    }

    int setSun(int next) {
        argument(next >= 0 && next <= 9);
        int before = sun;
        sun = next;
        return before;
    }

    int setEdge(int s, int edge) {
        index(isStep(s));
        argument(edge >= 0 && edge <= 999);
        int before = edges[s];
        edges[s] = edge;
        return before;
    }

    int flights() {
        return flights;
    }

    int steps() {
        return steps;
    }

    int hours() {
        return hours;
    }

    int sun() {
        return sun;
    }

    int edgeOf(int s) {
        index(isStep(s));
        return edges[s];
    }

    int marks() {
        return marks.size();
    }

    int deeds() {
        return deeds.size();
    }

    long gone() {
        return gone;
    }

    int levelAt(int f, int s) {
        index(isFlight(f) && isStep(s));
        return levels[f * steps + s];
    }

    long sumOf(int a, int b, int c, int d) {
        return part(a, b, c, d).stream().mapToLong(number -> levels[number]).sum();
    }

    long sumTo(int f, int s) {
        return sumOf(0, 0, f, s);
    }

    long flightSum(int f) {
        index(isFlight(f));
        return Arrays.stream(flightLevels(f)).asLongStream().sum();
    }

    long stepSum(int s) {
        return sumOf(0, s, flights - 1, s);
    }

    long total() {
        return Arrays.stream(levels).asLongStream().sum();
    }

    int firstReaching(int f, int drops) {
        index(isFlight(f));
        for (int s = 0; s < steps; s++) {
            if (sumOf(f, 0, f, s) >= drops) {
                return s;
            }
        }
        return -1;
    }

    long bestRun(int f) {
        index(isFlight(f));
        long best = Long.MIN_VALUE;
        for (int from = 0; from < steps; from++) {
            for (int to = from; to < steps; to++) {
                best = Math.max(best, sumOf(f, from, f, to));
            }
        }
        return best;
    }

    int dryIn(int a, int b, int c, int d) {
        return (int) part(a, b, c, d).stream().filter(number -> levels[number] <= 0).count();
    }

    int dry() {
        return (int) Arrays.stream(levels).filter(level -> level <= 0).count();
    }

    int dryAt(int place) {
        List<Integer> dry = numbers(0, 0, flights - 1, steps - 1);
        dry.removeIf(number -> levels[number] > 0);
        index(place >= 0 && place < dry.size());
        return dry.get(place);
    }

    int longestDry(int f) {
        index(isFlight(f));
        for (int length = steps; length > 0; length--) {
            for (int from = 0; from + length <= steps; from++) {
                if (dryIn(f, from, f, from + length - 1) == length) {
                    return length;
                }
            }
        }
        return 0;
    }

    int driestFlight() {
        int driest = flights - 1;
        for (int f = flights - 1; f >= 0; f--) {
            if (dryIn(f, 0, f, steps - 1) >= dryIn(driest, 0, driest, steps - 1)) {
                driest = f;
            }
        }
        return driest;
    }

    int lowestIn(int a, int b, int c, int d) {
        return part(a, b, c, d).stream().mapToInt(number -> levels[number]).min().getAsInt();
    }

    int highestAt(int f) {
        index(isFlight(f));
        int[] row = flightLevels(f);
        int highest = Arrays.stream(row).max().getAsInt();
        int step = 0;
        while (row[step] != highest) {
            step++;
        }
        return step;
    }

    int upTo(int level) {
        return (int) Arrays.stream(levels).filter(each -> each <= level).count();
    }

    int levelInOrder(int place) {
        index(place >= 0 && place < levels.length);
        int[] row = levels.clone();
        Arrays.sort(row);
        return row[place];
    }

    int outOfOrder() {
        return pairsOut(levels);
    }

    int alike(int one, int other) {
        index(isFlight(one) && isFlight(other));
        return steps - others(flightLevels(one), flightLevels(other));
    }

    int changedSince(int mark) {
        index(mark >= 0 && mark < marks.size());
        return others(levels, marks.get(mark));
    }

    long totalIn(int count) {
        argument(count >= 1 && count <= 40);
        int[] row = levels.clone();
        hoursOf(row, edges, sun, count);
        return Arrays.stream(row).asLongStream().sum();
    }

    int goneIn(int count) {
        argument(count >= 1 && count <= 40);
        return hoursOf(levels.clone(), edges, sun, count);
    }

    int hoursUntilDry() {
        for (int count = 0; count <= 60; count++) {
            int[] row = levels.clone();
            hoursOf(row, edges, sun, count);
            if (allDry(row)) {
                return count;
            }
        }
        return -1;
    }

    int sunWanted(int count) {
        argument(count >= 1 && count <= 40);
        int wanted = -1;
        for (int tried = 9; tried >= 0; tried--) {
            int[] row = levels.clone();
            hoursOf(row, edges, tried, count);
            wanted = allDry(row) ? tried : wanted;
        }
        return wanted;
    }

    int bestEdge(int s, int count) {
        index(isStep(s));
        argument(count >= 1 && count <= 40);
        int best = 300;
        int least = Integer.MAX_VALUE;
        for (int tried = 300; tried >= 0; tried -= 10) {
            int[] edgesThen = edges.clone();
            edgesThen[s] = tried;
            int over = hoursOf(levels.clone(), edgesThen, sun, count);
            if (over <= least) {
                least = over;
                best = tried;
            }
        }
        return best;
    }

    int bestSwap(int f) {
        index(isFlight(f));
        int best = flights - 1;
        for (int other = flights - 1; other >= 0; other--) {
            if (pairsOut(swappedRow(f, other)) <= pairsOut(swappedRow(f, best))) {
                best = other;
            }
        }
        return best;
    }

    double meanLevel() {
        return total() / (double) (flights * steps);
    }

    long digest() {
        List<Long> numbers = new ArrayList<>();
        for (long x : new long[] {flights, steps, hours, sun, marks.size(), deeds.size(), gone, total(), dry(),
                driestFlight(), outOfOrder(), hoursUntilDry(), totalIn(3), goneIn(3), sunWanted(5)}) {
            numbers.add(x);
        }
        for (int f = 0; f < flights; f++) {
            for (long x : new long[] {flightSum(f), bestRun(f), longestDry(f), highestAt(f), bestSwap(f)}) {
                numbers.add(x);
            }
            for (int level : flightLevels(f)) {
                numbers.add((long) level);
            }
        }
        for (int s = 0; s < steps; s++) {
            numbers.add((long) edges[s]);
            numbers.add(stepSum(s));
        }
        for (int mark = 0; mark < marks.size(); mark++) {
            numbers.add((long) changedSince(mark));
        }
        long d = 2281;
        for (long x : numbers) {
            d = d * 31 + x;
        }
        return d;
    }
}
