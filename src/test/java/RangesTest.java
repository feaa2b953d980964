import java.util.Arrays;
import java.util.Set;
import java.util.TreeSet;

/**
 * Each sentence 'Throws .. if ..' that speaks of numbers, promise by promise: for each argument the last number that
 * is taken and the first that is refused on either side, and the least and the greatest int, in every combination
 * (so that two faults meet, and the exception that is named first must win), on each scene.
 * Behind refused calls, and behind questions, the staircase has the story of one on which nothing was called.
 */
final class RangesTest {
    /** With the longest story and its scene this stays below the 512 calls of one object. */
    private static final int CALLS_BEHIND_A_SCENE = 60;
    private static final String INDEX = "throws.IndexOutOfBoundsException";
    private static final String ARGUMENT = "throws.IllegalArgumentException";

    /** What an argument is, and so from where to where it is taken. */
    private enum Kind {
        FLIGHT, STEP, MARK, DRY_PLACE, PLACE, FLIGHTS, STEPS, DROPS, BAILED, HOURS, SUN, EDGE, ANY;

        boolean isIndex() {
            return this == FLIGHT || this == STEP || this == MARK || this == DRY_PLACE || this == PLACE;
        }

        int least() {
            switch (this) {
                case FLIGHTS: case STEPS: case BAILED: case HOURS: return 1;
                case DROPS: return -99;
                case ANY: return Integer.MIN_VALUE;
                default: return 0;
            }
        }

        int most(Model model) {
            switch (this) {
                case FLIGHT: return model.flights() - 1;
                case STEP: return model.steps() - 1;
                case MARK: return model.marks() - 1;
                case DRY_PLACE: return model.dry() - 1;
                case PLACE: return model.flights() * model.steps() - 1;
                case FLIGHTS: return 8;
                case STEPS: return 16;
                case DROPS: return 99;
                case BAILED: return 999;
                case HOURS: return 40;
                case SUN: return 9;
                case EDGE: return 999;
                default: return Integer.MAX_VALUE;
            }
        }

        int[] tried(Model model) {
            if (this == ANY) {
                return new int[] {Integer.MIN_VALUE, Integer.MIN_VALUE + 1, -1, 0, 1, Integer.MAX_VALUE};
            }
            Set<Integer> numbers = new TreeSet<>(Set.of(Integer.MIN_VALUE, Integer.MAX_VALUE));
            numbers.addAll(Arrays.asList(least() - 1, least(), most(model), most(model) + 1));
            return numbers.stream().mapToInt(Integer::intValue).toArray();
        }
    }

    private final Scene scene;
    private final Model untouched;
    private final String story;
    private PuddleStairs stairs;
    private int called;

    private RangesTest(Scene scene) {
        this.scene = scene;
        untouched = scene.model();
        story = Story.of(scene.stairs());
        stairs = scene.stairs();
    }

    public static void main(String[] args) {
        for (Scene scene : Scene.values()) {
            RangesTest test = new RangesTest(scene);
            test.deeds();
            test.staircaseAndSums();
            test.dryOnes();
            test.levelsInOrder();
            test.whatWouldBe();
            test.endOfStory();
        }
        Check.end();
    }

    private void deeds() {
        promise(2, true, "lay", Kind.FLIGHTS, Kind.STEPS);
        promise(3, true, "rain", Kind.FLIGHT, Kind.STEP, Kind.DROPS);
        promise(4, true, "splash", Kind.FLIGHT, Kind.STEP, Kind.FLIGHT, Kind.STEP, Kind.DROPS);
        promise(5, true, "swap", Kind.FLIGHT, Kind.FLIGHT);
        promise(6, true, "turn", Kind.FLIGHT);
        promise(7, true, "bail", Kind.FLIGHT, Kind.BAILED);
        promise(8, true, "passHours", Kind.HOURS);
        promise(9, true, "mark");
        promise(10, true, "back", Kind.MARK);
        promise(11, true, "undo");
        promise(12, true, "setSun", Kind.SUN);
        promise(13, true, "setEdge", Kind.STEP, Kind.EDGE);
    }

    private void staircaseAndSums() {
        promise(14, false, "flights");
        promise(15, false, "steps");
        promise(16, false, "hours");
        promise(17, false, "sun");
        promise(18, false, "edgeOf", Kind.STEP);
        promise(19, false, "marks");
        promise(20, false, "deeds");
        promise(21, false, "gone");
        promise(22, false, "levelAt", Kind.FLIGHT, Kind.STEP);
        promise(23, false, "sumOf", Kind.FLIGHT, Kind.STEP, Kind.FLIGHT, Kind.STEP);
        promise(24, false, "sumTo", Kind.FLIGHT, Kind.STEP);
        promise(25, false, "flightSum", Kind.FLIGHT);
        promise(26, false, "stepSum", Kind.STEP);
        promise(27, false, "total");
        promise(28, false, "firstReaching", Kind.FLIGHT, Kind.ANY);
        promise(29, false, "bestRun", Kind.FLIGHT);
    }

    private void dryOnes() {
        promise(30, false, "dryIn", Kind.FLIGHT, Kind.STEP, Kind.FLIGHT, Kind.STEP);
        promise(31, false, "dry");
        promise(32, false, "dryAt", Kind.DRY_PLACE);
        promise(33, false, "longestDry", Kind.FLIGHT);
        promise(34, false, "driestFlight");
    }

    private void levelsInOrder() {
        promise(35, false, "lowestIn", Kind.FLIGHT, Kind.STEP, Kind.FLIGHT, Kind.STEP);
        promise(36, false, "highestAt", Kind.FLIGHT);
        promise(37, false, "upTo", Kind.ANY);
        promise(38, false, "levelInOrder", Kind.PLACE);
        promise(39, false, "outOfOrder");
        promise(40, false, "alike", Kind.FLIGHT, Kind.FLIGHT);
        promise(41, false, "changedSince", Kind.MARK);
    }

    private void whatWouldBe() {
        promise(42, false, "totalIn", Kind.HOURS);
        promise(43, false, "goneIn", Kind.HOURS);
        promise(44, false, "hoursUntilDry");
        promise(45, false, "sunWanted", Kind.HOURS);
        promise(46, false, "bestEdge", Kind.STEP, Kind.HOURS);
        promise(47, false, "bestSwap", Kind.FLIGHT);
        promise(48, false, "meanLevel");
        promise(49, false, "digest");
    }

    /** Calls with every combination of the numbers tried; changes tells whether a call that is taken may change something. */
    private void promise(int number, boolean changes, String name, Kind... kinds) {
        int[][] tried = new int[kinds.length][];
        int combinations = 1;
        for (int place = 0; place < kinds.length; place++) {
            tried[place] = kinds[place].tried(untouched);
            combinations *= tried[place].length;
        }
        for (int combination = 0; combination < combinations; combination++) {
            int[] arguments = new int[kinds.length];
            int left = combination;
            for (int place = 0; place < kinds.length; place++) {
                arguments[place] = tried[place][left % tried[place].length];
                left /= tried[place].length;
            }
            String what = "promise " + number + ", " + scene + ": " + name + Arrays.toString(arguments);
            oneCall(what, changes, refusal(name, kinds, arguments), name, arguments);
        }
    }

    private void oneCall(String what, boolean changes, String refusal, String name, int[] arguments) {
        if (!refusal.isEmpty()) {
            Check.dueText(what, Calls.answer(nextStairs(), name, arguments), refusal);
        } else if (changes) {
            Check.dueText(what, Calls.answer(scene.stairs(), name, arguments), Calls.answer(scene.model(), name, arguments));
        } else {
            Check.dueText(what, Calls.answer(nextStairs(), name, arguments), Calls.answer(untouched, name, arguments));
        }
    }

    /** The exception that is due, or nothing where the numbers are taken. */
    private String refusal(String name, Kind[] kinds, int[] arguments) {
        if (name.equals("mark")) {
            return untouched.marks() == 12 ? "throws.IllegalStateException" : "";
        }
        if (name.equals("undo")) {
            return untouched.deeds() == 0 ? "throws.IllegalStateException" : "";
        }
        if (anyPast(kinds, arguments, true)) {
            return INDEX;
        }
        boolean ofAPart = kinds.length >= 4;
        if (ofAPart && (arguments[0] > arguments[2] || arguments[1] > arguments[3])) {
            return ARGUMENT;
        }
        return anyPast(kinds, arguments, false) ? ARGUMENT : "";
    }

    private boolean anyPast(Kind[] kinds, int[] arguments, boolean indexes) {
        for (int place = 0; place < kinds.length; place++) {
            boolean past = arguments[place] < kinds[place].least() || arguments[place] > kinds[place].most(untouched);
            if (past && kinds[place].isIndex() == indexes) {
                return true;
            }
        }
        return false;
    }

    private PuddleStairs nextStairs() {
        if (called == CALLS_BEHIND_A_SCENE) {
            endOfStory();
            stairs = scene.stairs();
            called = 0;
        }
        called++;
        return stairs;
    }

    private void endOfStory() {
        Check.dueText("the story of " + scene + " behind refused calls and questions", Story.of(stairs), story);
    }
}
