/** Promises 22 to 29: levels and sums. */
final class SumsTest {
    private SumsTest() {
    }

    public static void main(String[] args) {
        promise22LevelAt();
        promise23SumOf();
        promise24SumTo();
        promise25FlightSum();
        promise26StepSum();
        promise27Total();
        promise28FirstReaching();
        promise29BestRun();
        Check.end();
    }

    private static PuddleStairs someStairs() {
        return Check.laid(new int[][] {{1, -2, 4, 8}, {16, 32, -64, 0}, {5, 5, -6, 5}});
    }

    private static void promise22LevelAt() {
        PuddleStairs stairs = someStairs();
        Check.due("levelAt(0, 0)", stairs.levelAt(0, 0), 1);
        Check.due("levelAt(1, 2)", stairs.levelAt(1, 2), -64);
        Check.due("levelAt(2, 3)", stairs.levelAt(2, 3), 5);
        Check.noIndex(stairs, "levelAt(-1, 0)", () -> stairs.levelAt(-1, 0));
        Check.noIndex(stairs, "levelAt(3, 0)", () -> stairs.levelAt(3, 0));
        Check.noIndex(stairs, "levelAt(0, -1)", () -> stairs.levelAt(0, -1));
        Check.noIndex(stairs, "levelAt(0, 4)", () -> stairs.levelAt(0, 4));
    }

    private static void promise23SumOf() {
        PuddleStairs stairs = someStairs();
        Check.due("sumOf all", stairs.sumOf(0, 0, 2, 3), 4);
        Check.due("sumOf(0, 1, 1, 2)", stairs.sumOf(0, 1, 1, 2), -30);
        Check.due("sumOf(1, 1, 1, 1)", stairs.sumOf(1, 1, 1, 1), 32);
        Check.noIndex(stairs, "sumOf(-1, 0, 0, 0)", () -> stairs.sumOf(-1, 0, 0, 0));
        Check.noIndex(stairs, "sumOf(0, -1, 0, 0)", () -> stairs.sumOf(0, -1, 0, 0));
        Check.noIndex(stairs, "sumOf(0, 0, 3, 0)", () -> stairs.sumOf(0, 0, 3, 0));
        Check.noIndex(stairs, "sumOf(0, 0, 0, 4)", () -> stairs.sumOf(0, 0, 0, 4));
        Check.noIndex(stairs, "sumOf(3, 0, 0, 0)", () -> stairs.sumOf(3, 0, 0, 0));
        Check.noIndex(stairs, "sumOf(1, 0, 0, 4)", () -> stairs.sumOf(1, 0, 0, 4));
        Check.noArgument(stairs, "sumOf(1, 0, 0, 0)", () -> stairs.sumOf(1, 0, 0, 0));
        Check.noArgument(stairs, "sumOf(0, 3, 2, 2)", () -> stairs.sumOf(0, 3, 2, 2));
    }

    private static void promise24SumTo() {
        PuddleStairs stairs = someStairs();
        Check.due("sumTo(0, 0)", stairs.sumTo(0, 0), 1);
        Check.due("sumTo(1, 1)", stairs.sumTo(1, 1), 47);
        Check.due("sumTo(2, 3)", stairs.sumTo(2, 3), 4);
        Check.noIndex(stairs, "sumTo(-1, 0)", () -> stairs.sumTo(-1, 0));
        Check.noIndex(stairs, "sumTo(3, 0)", () -> stairs.sumTo(3, 0));
        Check.noIndex(stairs, "sumTo(0, -1)", () -> stairs.sumTo(0, -1));
        Check.noIndex(stairs, "sumTo(0, 4)", () -> stairs.sumTo(0, 4));
    }

    private static void promise25FlightSum() {
        PuddleStairs stairs = someStairs();
        Check.due("flightSum(0)", stairs.flightSum(0), 11);
        Check.due("flightSum(1)", stairs.flightSum(1), -16);
        Check.noIndex(stairs, "flightSum(-1)", () -> stairs.flightSum(-1));
        Check.noIndex(stairs, "flightSum(3)", () -> stairs.flightSum(3));
    }

    private static void promise26StepSum() {
        PuddleStairs stairs = someStairs();
        Check.due("stepSum(0)", stairs.stepSum(0), 22);
        Check.due("stepSum(2)", stairs.stepSum(2), -66);
        Check.noIndex(stairs, "stepSum(-1)", () -> stairs.stepSum(-1));
        Check.noIndex(stairs, "stepSum(4)", () -> stairs.stepSum(4));
    }

    private static void promise27Total() {
        Check.due("total()", someStairs().total(), 4);
        PuddleStairs stairs = new PuddleStairs();
        stairs.lay(8, 16);
        for (int time = 0; time < 400; time++) {
            stairs.splash(0, 0, 7, 15, -99);
        }
        Check.due("total() far below 0", stairs.total(), -128L * 99 * 400);
        Check.due("sumTo(7, 15) far below 0", stairs.sumTo(7, 15), -128L * 99 * 400);
    }

    private static void promise28FirstReaching() {
        PuddleStairs stairs = someStairs();
        Check.due("firstReaching(0, 1)", stairs.firstReaching(0, 1), 0);
        Check.due("firstReaching(0, 2)", stairs.firstReaching(0, 2), 2);
        Check.due("firstReaching(0, 11)", stairs.firstReaching(0, 11), 3);
        Check.due("firstReaching(0, 12)", stairs.firstReaching(0, 12), -1);
        Check.due("firstReaching(1, 48)", stairs.firstReaching(1, 48), 1);
        Check.due("firstReaching(1, 49)", stairs.firstReaching(1, 49), -1);
        Check.due("firstReaching(1, least)", stairs.firstReaching(1, Integer.MIN_VALUE), 0);
        Check.due("firstReaching(1, greatest)", stairs.firstReaching(1, Integer.MAX_VALUE), -1);
        Check.noIndex(stairs, "firstReaching(-1, 0)", () -> stairs.firstReaching(-1, 0));
        Check.noIndex(stairs, "firstReaching(3, 0)", () -> stairs.firstReaching(3, 0));
    }

    private static void promise29BestRun() {
        PuddleStairs stairs = someStairs();
        Check.due("bestRun(0)", stairs.bestRun(0), 12);
        Check.due("bestRun(1)", stairs.bestRun(1), 48);
        Check.due("bestRun(2)", stairs.bestRun(2), 10);
        Check.due("bestRun of a run in the middle", Check.laid(new int[][] {{-1, 3, -2, 4, -9}}).bestRun(0), 5);
        Check.due("bestRun of levels below 0", Check.laid(new int[][] {{-7, -3, -5}}).bestRun(0), -3);
        Check.noIndex(stairs, "bestRun(-1)", () -> stairs.bestRun(-1));
        Check.noIndex(stairs, "bestRun(3)", () -> stairs.bestRun(3));
    }
}
