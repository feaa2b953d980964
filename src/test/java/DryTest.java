/** Promises 30 to 34: dry puddles. */
final class DryTest {
    private DryTest() {
    }

    public static void main(String[] args) {
        promise30DryIn();
        promise31Dry();
        promise32DryAt();
        promise33LongestDry();
        promise34DriestFlight();
        Check.end();
    }

    private static PuddleStairs someStairs() {
        return Check.laid(new int[][] {{1, 0, 4, 8, -1}, {0, -3, 2, -1, 0}, {0, 0, 0, 1, 5}});
    }

    private static void promise30DryIn() {
        PuddleStairs stairs = someStairs();
        Check.due("dryIn all", stairs.dryIn(0, 0, 2, 4), 9);
        Check.due("dryIn(0, 1, 1, 3)", stairs.dryIn(0, 1, 1, 3), 3);
        Check.due("dryIn(0, 0, 0, 0)", stairs.dryIn(0, 0, 0, 0), 0);
        Check.due("dryIn(0, 1, 0, 1)", stairs.dryIn(0, 1, 0, 1), 1);
        Check.noIndex(stairs, "dryIn(-1, 0, 0, 0)", () -> stairs.dryIn(-1, 0, 0, 0));
        Check.noIndex(stairs, "dryIn(0, -1, 0, 0)", () -> stairs.dryIn(0, -1, 0, 0));
        Check.noIndex(stairs, "dryIn(0, 0, 3, 0)", () -> stairs.dryIn(0, 0, 3, 0));
        Check.noIndex(stairs, "dryIn(0, 0, 0, 5)", () -> stairs.dryIn(0, 0, 0, 5));
        Check.noIndex(stairs, "dryIn(1, 0, 0, 5)", () -> stairs.dryIn(1, 0, 0, 5));
        Check.noArgument(stairs, "dryIn(1, 0, 0, 0)", () -> stairs.dryIn(1, 0, 0, 0));
        Check.noArgument(stairs, "dryIn(0, 1, 0, 0)", () -> stairs.dryIn(0, 1, 0, 0));
    }

    private static void promise31Dry() {
        Check.due("dry()", someStairs().dry(), 9);
        Check.due("dry() of a new object", new PuddleStairs().dry(), 32);
        Check.due("dry() of a wet one", Check.laid(new int[][] {{1}}).dry(), 0);
    }

    private static void promise32DryAt() {
        PuddleStairs stairs = someStairs();
        int[] want = {1, 4, 5, 6, 8, 9, 10, 11, 12};
        for (int place = 0; place < want.length; place++) {
            Check.due("dryAt(" + place + ")", stairs.dryAt(place), want[place]);
        }
        Check.noIndex(stairs, "dryAt(-1)", () -> stairs.dryAt(-1));
        Check.noIndex(stairs, "dryAt(9)", () -> stairs.dryAt(9));
        PuddleStairs wet = Check.laid(new int[][] {{1, 1}});
        Check.noIndex(wet, "dryAt(0) of wet ones", () -> wet.dryAt(0));
    }

    private static void promise33LongestDry() {
        PuddleStairs stairs = someStairs();
        Check.due("longestDry(0)", stairs.longestDry(0), 1);
        Check.due("longestDry(1)", stairs.longestDry(1), 2);
        Check.due("longestDry(2)", stairs.longestDry(2), 3);
        Check.due("longestDry of wet ones", Check.laid(new int[][] {{1, 2}}).longestDry(0), 0);
        Check.due("longestDry at the end", Check.laid(new int[][] {{0, 2, -1, 0}}).longestDry(0), 2);
        Check.noIndex(stairs, "longestDry(-1)", () -> stairs.longestDry(-1));
        Check.noIndex(stairs, "longestDry(3)", () -> stairs.longestDry(3));
    }

    private static void promise34DriestFlight() {
        PuddleStairs stairs = someStairs();
        Check.due("driestFlight()", stairs.driestFlight(), 1);
        stairs.rain(1, 0, 1);
        Check.due("driestFlight() of two alike", stairs.driestFlight(), 1);
        stairs.rain(1, 1, 9);
        Check.due("driestFlight() behind rain", stairs.driestFlight(), 2);
        Check.due("driestFlight() of wet ones", Check.laid(new int[][] {{1}, {1}}).driestFlight(), 0);
    }
}
