/** Promises 14 to 41: each sentence that names a boundary case. What is refused for its numbers stands in RangesTest. */
final class QuestionsBoundsTest {
    private QuestionsBoundsTest() {
    }

    public static void main(String[] args) {
        promises14To21FromEmptyToFull();
        promise18EdgeOfFirstAndLastStep();
        promises22To27OnePuddle();
        promises22To27TheGreatestStaircase();
        promises22To27Lowest();
        promise24SumToEachPuddle();
        promise28ThisSumOrMore();
        promise28NoneReaches();
        promise29OneStepAtLeast();
        promise29RunsAtBothEnds();
        promise31NoneAndAllAreDry();
        promise32EachPlace();
        promise32NotSoMany();
        promise33NoneAndAllOfAFlight();
        promise34OfSeveralTheSmallestNumber();
        promise35PartOfOne();
        promise36OfSeveralTheFirstOne();
        promise37ThisLevelOrALowerOne();
        promise38AscendingOrder();
        promise39NoneAndAllPairs();
        promise40NoneAndAllSteps();
        promise41NoneAndAllPuddles();
        Check.end();
    }

    private static void promises14To21FromEmptyToFull() {
        PuddleStairs fresh = Scene.FRESH.stairs();
        Check.due("marks() of FRESH", fresh.marks(), 0);
        Check.due("deeds() of FRESH", fresh.deeds(), 0);
        Check.due("hours() of FRESH", fresh.hours(), 0);
        Check.due("gone() of FRESH", fresh.gone(), 0);
        PuddleStairs full = Scene.FULL.stairs();
        Check.due("flights() of FULL", full.flights(), 2);
        Check.due("steps() of FULL", full.steps(), 3);
        Check.due("hours() of FULL", full.hours(), 1 + 2 + 3 + 4);
        Check.due("sun() of FULL", full.sun(), 2);
        Check.due("edgeOf(2) of FULL", full.edgeOf(2), 7);
        Check.due("marks() of FULL", full.marks(), 12);
        Check.due("deeds() of FULL", full.deeds(), 30);
        Check.due("flights() of GREATEST", Scene.GREATEST.stairs().flights(), 8);
        Check.due("steps() of GREATEST", Scene.GREATEST.stairs().steps(), 16);
    }

    private static void promise18EdgeOfFirstAndLastStep() {
        PuddleStairs stairs = new PuddleStairs();
        stairs.lay(1, 16);
        stairs.setEdge(0, 1);
        stairs.setEdge(15, 2);
        Check.due("edgeOf(0)", stairs.edgeOf(0), 1);
        Check.due("edgeOf(15)", stairs.edgeOf(15), 2);
        Check.noIndex(stairs, "edgeOf(16)", () -> stairs.edgeOf(16));
        stairs.lay(1, 15);
        Check.noIndex(stairs, "edgeOf(15) of 15 steps", () -> stairs.edgeOf(15));
        Check.due("edgeOf(14) of 15 steps", stairs.edgeOf(14), 50);
    }

    private static void promises22To27OnePuddle() {
        for (int level : new int[] {-99, -1, 0, 1, 99}) {
            PuddleStairs stairs = Check.laid(new int[][] {{level}});
            Check.due("levelAt(0, 0) of one", stairs.levelAt(0, 0), level);
            Check.due("sumOf of one", stairs.sumOf(0, 0, 0, 0), level);
            Check.due("sumTo of one", stairs.sumTo(0, 0), level);
            Check.due("flightSum of one", stairs.flightSum(0), level);
            Check.due("stepSum of one", stairs.stepSum(0), level);
            Check.due("total() of one", stairs.total(), level);
            Check.due("bestRun of one", stairs.bestRun(0), level);
            Check.due("highestAt of one", stairs.highestAt(0), 0);
            Check.due("lowestIn of one", stairs.lowestIn(0, 0, 0, 0), level);
            Check.due("levelInOrder of one", stairs.levelInOrder(0), level);
            Check.due("outOfOrder() of one", stairs.outOfOrder(), 0);
            Check.due("driestFlight() of one", stairs.driestFlight(), 0);
        }
    }

    private static void promises22To27TheGreatestStaircase() {
        PuddleStairs stairs = new PuddleStairs();
        stairs.lay(8, 16);
        stairs.splash(0, 0, 7, 15, 1);
        stairs.rain(7, 15, 50);
        stairs.rain(0, 0, 20);
        Check.due("levelAt(7, 15)", stairs.levelAt(7, 15), 51);
        Check.due("sumOf all", stairs.sumOf(0, 0, 7, 15), 198);
        Check.due("sumTo(7, 15)", stairs.sumTo(7, 15), 198);
        Check.due("sumTo(7, 14)", stairs.sumTo(7, 14), 8 * 15 + 20);
        Check.due("sumTo(6, 15)", stairs.sumTo(6, 15), 7 * 16 + 20);
        Check.due("flightSum(7)", stairs.flightSum(7), 66);
        Check.due("flightSum(0)", stairs.flightSum(0), 36);
        Check.due("stepSum(15)", stairs.stepSum(15), 58);
        Check.due("stepSum(0)", stairs.stepSum(0), 28);
        Check.due("total()", stairs.total(), 198);
    }

    /** As low as 510 calls can bring it. */
    private static void promises22To27Lowest() {
        PuddleStairs stairs = new PuddleStairs();
        stairs.lay(8, 16);
        for (int time = 0; time < 490; time++) {
            stairs.splash(0, 0, 7, 15, time % 2 == 0 ? -99 : -98);
        }
        long level = 245L * (-99 - 98);
        Check.due("levelAt(7, 15), the lowest", stairs.levelAt(7, 15), level);
        Check.due("flightSum(7), the lowest", stairs.flightSum(7), 16 * level);
        Check.due("stepSum(15), the lowest", stairs.stepSum(15), 8 * level);
        Check.due("total(), the lowest", stairs.total(), 128 * level);
        Check.due("bestRun(0), the lowest", stairs.bestRun(0), level);
        Check.due("dry(), the lowest", stairs.dry(), 128);
        Check.due("totalIn(40), the lowest", stairs.totalIn(40), 128 * level);
        Check.dueDouble("meanLevel(), the lowest", stairs.meanLevel(), (double) level);
    }

    /** "the part from the flight 0 and the step 0 to these" */
    private static void promise24SumToEachPuddle() {
        PuddleStairs stairs = new PuddleStairs();
        stairs.lay(3, 4);
        stairs.splash(0, 0, 2, 3, 1);
        for (int flight = 0; flight < 3; flight++) {
            for (int step = 0; step < 4; step++) {
                Check.due("sumTo(" + flight + ", " + step + ")", stairs.sumTo(flight, step), (flight + 1) * (step + 1));
            }
        }
    }

    /** "the first step for which the levels .. added, are this sum or more" */
    private static void promise28ThisSumOrMore() {
        PuddleStairs stairs = Check.laid(new int[][] {{9, 9, 9, 9, 9}, {5, -5, 7, -7, 9}, {0, 0, 0, 0, 0}});
        int[] sums = {-100, 4, 5, 6, 7, 8, 9};
        int[] want = {0, 0, 0, 2, 2, 4, 4};
        for (int row = 0; row < sums.length; row++) {
            Check.due("firstReaching(1, " + sums[row] + ")", stairs.firstReaching(1, sums[row]), want[row]);
        }
        Check.due("firstReaching(1, 10)", stairs.firstReaching(1, 10), -1);
        Check.due("firstReaching(0, 45)", stairs.firstReaching(0, 45), 4);
        Check.due("firstReaching(0, 46)", stairs.firstReaching(0, 46), -1);
        Check.due("firstReaching(2, 0)", stairs.firstReaching(2, 0), 0);
        PuddleStairs rising = Check.laid(new int[][] {{-9, -1, 3, 8}});
        Check.due("firstReaching(0, -10) of rising ones", rising.firstReaching(0, -10), 0);
        Check.due("firstReaching(0, -8) of rising ones", rising.firstReaching(0, -8), 2);
        Check.due("firstReaching(0, 0) of rising ones", rising.firstReaching(0, 0), 3);
        Check.due("firstReaching(0, 1) of rising ones", rising.firstReaching(0, 1), 3);
    }

    /** "-1 if there is none" */
    private static void promise28NoneReaches() {
        PuddleStairs stairs = new PuddleStairs();
        Check.due("firstReaching(0, 1) of level 0", stairs.firstReaching(0, 1), -1);
        Check.due("firstReaching(3, greatest)", stairs.firstReaching(3, Integer.MAX_VALUE), -1);
        Check.due("firstReaching(3, least)", stairs.firstReaching(3, Integer.MIN_VALUE), 0);
        stairs.rain(3, 7, 1);
        Check.due("firstReaching(3, 1) at the last step", stairs.firstReaching(3, 1), 7);
        Check.due("firstReaching(2, 1) of another flight", stairs.firstReaching(2, 1), -1);
    }

    /** "of one at least" */
    private static void promise29OneStepAtLeast() {
        Check.due("bestRun of levels below 0", Check.laid(new int[][] {{-9, -2, -7}}).bestRun(0), -2);
        Check.due("bestRun of levels below 0, the first one", Check.laid(new int[][] {{-1, -2, -7}}).bestRun(0), -1);
        Check.due("bestRun of levels below 0, the last one", Check.laid(new int[][] {{-9, -8, -7}}).bestRun(0), -7);
        Check.due("bestRun of 0 and less", Check.laid(new int[][] {{-9, 0, -7}}).bestRun(0), 0);
        Check.due("bestRun of equal ones below 0", Check.laid(new int[][] {{-3, -3}}).bestRun(0), -3);
    }

    private static void promise29RunsAtBothEnds() {
        Check.due("bestRun of all", Check.laid(new int[][] {{3, 1, 4, 1}}).bestRun(0), 9);
        Check.due("bestRun at the first end", Check.laid(new int[][] {{3, 4, -9, 1}}).bestRun(0), 7);
        Check.due("bestRun at the last end", Check.laid(new int[][] {{3, -9, 4, 1}}).bestRun(0), 5);
        Check.due("bestRun over a lower one", Check.laid(new int[][] {{5, -4, 6, -9, 6}}).bestRun(0), 7);
        Check.due("bestRun not over one as low as the sum", Check.laid(new int[][] {{5, -5, 5}}).bestRun(0), 5);
        PuddleStairs two = Check.laid(new int[][] {{-1, 9}, {9, -1}});
        Check.due("bestRun ends with the flight", two.bestRun(0), 9);
        Check.due("bestRun begins with the flight", two.bestRun(1), 9);
    }

    private static void promise31NoneAndAllAreDry() {
        PuddleStairs stairs = new PuddleStairs();
        stairs.lay(8, 16);
        Check.due("dry() of all", stairs.dry(), 128);
        Check.due("dryIn of all", stairs.dryIn(0, 0, 7, 15), 128);
        stairs.splash(0, 0, 7, 15, 1);
        Check.due("dry() of none", stairs.dry(), 0);
        Check.due("dryIn of none", stairs.dryIn(0, 0, 7, 15), 0);
        stairs.rain(7, 15, -1);
        Check.due("dry() of the last", stairs.dry(), 1);
        Check.due("dryIn of the last", stairs.dryIn(7, 15, 7, 15), 1);
        Check.due("dryIn without the last", stairs.dryIn(0, 0, 7, 14), 0);
    }

    /** "a place among dry puddles, in their order, from 0 on" */
    private static void promise32EachPlace() {
        PuddleStairs stairs = new PuddleStairs();
        stairs.lay(8, 16);
        for (int place = 0; place < 128; place++) {
            Check.due("dryAt(" + place + ") of all", stairs.dryAt(place), place);
        }
        Check.noIndex(stairs, "dryAt(128)", () -> stairs.dryAt(128));
        stairs.rain(0, 0, 1);
        for (int place = 0; place < 127; place++) {
            Check.due("dryAt(" + place + ") of all but the first", stairs.dryAt(place), place + 1);
        }
        Check.noIndex(stairs, "dryAt(127)", () -> stairs.dryAt(127));
    }

    /** "if there are not so many" */
    private static void promise32NotSoMany() {
        PuddleStairs stairs = Check.laid(new int[][] {{1, 1}, {1, 0}});
        Check.due("dryAt(0) of one", stairs.dryAt(0), 3);
        Check.noIndex(stairs, "dryAt(1) of one", () -> stairs.dryAt(1));
        Check.noIndex(stairs, "dryAt(-1) of one", () -> stairs.dryAt(-1));
        stairs.rain(1, 1, 1);
        Check.noIndex(stairs, "dryAt(0) of none", () -> stairs.dryAt(0));
        Check.noIndex(stairs, "dryAt(-1) of none", () -> stairs.dryAt(-1));
        Check.noIndex(stairs, "dryAt(greatest) of none", () -> stairs.dryAt(Integer.MAX_VALUE));
        Check.noIndex(stairs, "dryAt(least) of none", () -> stairs.dryAt(Integer.MIN_VALUE));
    }

    /** "how many dry puddles are one behind the other in the flight, at the most" */
    private static void promise33NoneAndAllOfAFlight() {
        PuddleStairs stairs = new PuddleStairs();
        stairs.lay(3, 16);
        Check.due("longestDry of all", stairs.longestDry(1), 16);
        stairs.rain(1, 0, 1);
        Check.due("longestDry behind the first", stairs.longestDry(1), 15);
        stairs.rain(1, 15, 1);
        Check.due("longestDry between both ends", stairs.longestDry(1), 14);
        stairs.rain(1, 7, 1);
        Check.due("longestDry of the longer one", stairs.longestDry(1), 7);
        stairs.rain(1, 0, -1);
        Check.due("longestDry at the first end", stairs.longestDry(1), 7);
        stairs.rain(1, 14, 1);
        Check.due("longestDry at the first end alone", stairs.longestDry(1), 7);
        stairs.splash(1, 0, 1, 15, 1);
        Check.due("longestDry of none", stairs.longestDry(1), 0);
        Check.due("longestDry of the flight ahead", stairs.longestDry(0), 16);
        Check.due("longestDry of the flight behind", stairs.longestDry(2), 16);
    }

    /** "of several the smallest number" */
    private static void promise34OfSeveralTheSmallestNumber() {
        PuddleStairs stairs = new PuddleStairs();
        stairs.lay(8, 2);
        Check.due("driestFlight() of all dry", stairs.driestFlight(), 0);
        stairs.splash(0, 0, 7, 1, 1);
        Check.due("driestFlight() of all wet", stairs.driestFlight(), 0);
        stairs.rain(7, 0, -1);
        Check.due("driestFlight() of the last", stairs.driestFlight(), 7);
        stairs.rain(3, 1, -1);
        Check.due("driestFlight() of two", stairs.driestFlight(), 3);
        stairs.rain(7, 1, -9);
        Check.due("driestFlight() of the one with more", stairs.driestFlight(), 7);
    }

    private static void promise35PartOfOne() {
        PuddleStairs stairs = Check.laid(new int[][] {{4, -9}, {-8, 7}});
        Check.due("lowestIn of 4", stairs.lowestIn(0, 0, 0, 0), 4);
        Check.due("lowestIn of 7", stairs.lowestIn(1, 1, 1, 1), 7);
        Check.due("lowestIn of the first step", stairs.lowestIn(0, 0, 1, 0), -8);
        Check.due("lowestIn of the first flight", stairs.lowestIn(0, 0, 0, 1), -9);
        Check.due("lowestIn of the last flight", stairs.lowestIn(1, 0, 1, 1), -8);
        Check.due("lowestIn of all", stairs.lowestIn(0, 0, 1, 1), -9);
    }

    /** "of several the first one" */
    private static void promise36OfSeveralTheFirstOne() {
        PuddleStairs stairs = Check.laid(new int[][] {{5, 5, 5}, {1, 7, 7}, {-3, -4, -2}, {-3, -4, -3}});
        Check.due("highestAt of equal ones", stairs.highestAt(0), 0);
        Check.due("highestAt of two at the end", stairs.highestAt(1), 1);
        Check.due("highestAt of the last one", stairs.highestAt(2), 2);
        Check.due("highestAt of two below 0", stairs.highestAt(3), 0);
    }

    /** "how many puddles have this level or a lower one" */
    private static void promise37ThisLevelOrALowerOne() {
        PuddleStairs stairs = Check.laid(new int[][] {{5, -5}, {0, 5}});
        int[] levels = {Integer.MIN_VALUE, -6, -5, -4, -1, 0, 1, 4, 5, 6, Integer.MAX_VALUE};
        int[] want = {0, 0, 1, 1, 1, 2, 2, 2, 4, 4, 4};
        for (int row = 0; row < levels.length; row++) {
            Check.due("upTo(" + levels[row] + ")", stairs.upTo(levels[row]), want[row]);
        }
    }

    /** "a place among all levels in ascending order, from 0 on" */
    private static void promise38AscendingOrder() {
        PuddleStairs stairs = new PuddleStairs();
        stairs.lay(8, 16);
        for (int number = 0; number < 128; number++) {
            stairs.rain(number / 16, number % 16, 60 - number % 100);
        }
        int place = 0;
        for (int level = -39; level <= 60; level++) {
            int times = level >= 33 ? 2 : 1;
            for (int time = 0; time < times; time++) {
                Check.due("levelInOrder(" + place + ")", stairs.levelInOrder(place), level);
                place++;
            }
        }
        Check.due("places", place, 128);
        Check.noIndex(stairs, "levelInOrder(128)", () -> stairs.levelInOrder(128));
        Check.noIndex(stairs, "levelInOrder(-1)", () -> stairs.levelInOrder(-1));
    }

    /** "of which the one ahead in their order has the higher level" */
    private static void promise39NoneAndAllPairs() {
        Check.due("outOfOrder() of equal ones", new PuddleStairs().outOfOrder(), 0);
        Check.due("outOfOrder() of two falling", Check.laid(new int[][] {{1, 0}}).outOfOrder(), 1);
        Check.due("outOfOrder() of two rising", Check.laid(new int[][] {{0, 1}}).outOfOrder(), 0);
        Check.due("outOfOrder() of two flights falling", Check.laid(new int[][] {{0}, {-1}}).outOfOrder(), 1);
        Check.due("outOfOrder() of two flights rising", Check.laid(new int[][] {{-1}, {0}}).outOfOrder(), 0);
        PuddleStairs stairs = new PuddleStairs();
        stairs.lay(8, 16);
        stairs.rain(0, 0, 1);
        Check.due("outOfOrder() of the first one higher", stairs.outOfOrder(), 127);
        stairs.rain(7, 15, -1);
        Check.due("outOfOrder() of the last one lower too", stairs.outOfOrder(), 127 + 126);
    }

    /** "in how many steps both have the same level" */
    private static void promise40NoneAndAllSteps() {
        PuddleStairs stairs = new PuddleStairs();
        stairs.lay(8, 16);
        Check.due("alike in all", stairs.alike(0, 7), 16);
        Check.due("alike with itself", stairs.alike(7, 7), 16);
        stairs.rain(7, 15, 1);
        Check.due("alike in all but the last", stairs.alike(0, 7), 15);
        stairs.splash(0, 0, 0, 14, -1);
        Check.due("alike in none", stairs.alike(0, 7), 0);
        Check.due("alike in none, the other way", stairs.alike(7, 0), 0);
    }

    /** "how many puddles have another level now than at the mark" */
    private static void promise41NoneAndAllPuddles() {
        PuddleStairs stairs = new PuddleStairs();
        stairs.lay(8, 16);
        stairs.mark();
        Check.due("changedSince(0) of none", stairs.changedSince(0), 0);
        stairs.rain(7, 15, -1);
        Check.due("changedSince(0) of the last", stairs.changedSince(0), 1);
        stairs.splash(0, 0, 7, 15, 1);
        Check.due("changedSince(0) of all but the last", stairs.changedSince(0), 127);
        stairs.splash(0, 0, 7, 15, 1);
        Check.due("changedSince(0) of all", stairs.changedSince(0), 128);
        stairs.undo();
        stairs.undo();
        stairs.undo();
        Check.due("changedSince(0) of none again", stairs.changedSince(0), 0);
        Check.noIndex(stairs, "changedSince(1)", () -> stairs.changedSince(1));
    }
}
