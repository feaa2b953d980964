import java.math.BigInteger;

/** Promises 42 to 49: each sentence that names a boundary case. What is refused for its numbers stands in RangesTest. */
final class WouldBeBoundsTest {
    private WouldBeBoundsTest() {
    }

    public static void main(String[] args) {
        promises42And43OneHourAndForty();
        promises42To47ChangeNothing();
        promise43FromTheLastEdge();
        promise44ZeroIfTheyAreNow();
        promise44AtMostSixty();
        promise44WaterOnItsWay();
        promise45TheLeastSun();
        promise45NineDoesNotDo();
        promise46ZeroToThreeHundred();
        promise46OfSeveralTheSmallest();
        promise46InAllTheHours();
        promise47OfSeveralTheSmallestNumber();
        promise47ItselfCounts();
        promise48MeanLevel();
        promise49WrapsAround();
        Check.end();
    }

    private static PuddleStairs raised(int level) {
        PuddleStairs stairs = new PuddleStairs();
        stairs.lay(1, 1);
        int left = level;
        while (left > 99) {
            stairs.rain(0, 0, 99);
            left -= 99;
        }
        stairs.rain(0, 0, left);
        return stairs;
    }

    /** "behind them, if nothing else is done" */
    private static void promises42And43OneHourAndForty() {
        for (Scene scene : Scene.values()) {
            PuddleStairs asked = scene.stairs();
            for (int hours : new int[] {1, 2, 20, 39, 40}) {
                PuddleStairs passed = scene.stairs();
                Check.due("goneIn(" + hours + ") of " + scene, asked.goneIn(hours), passed.passHours(hours));
                Check.due("totalIn(" + hours + ") of " + scene, asked.totalIn(hours), passed.total());
            }
        }
        PuddleStairs stairs = raised(99);
        Check.due("totalIn(1)", stairs.totalIn(1), 50);
        Check.due("goneIn(1)", stairs.goneIn(1), 48);
        Check.due("totalIn(40)", stairs.totalIn(40), 11);
        Check.due("goneIn(40)", stairs.goneIn(40), 48);
        Check.noArgument(stairs, "totalIn(0)", () -> stairs.totalIn(0));
        Check.noArgument(stairs, "totalIn(41)", () -> stairs.totalIn(41));
        Check.noArgument(stairs, "goneIn(0)", () -> stairs.goneIn(0));
        Check.noArgument(stairs, "goneIn(41)", () -> stairs.goneIn(41));
    }

    /** "(nothing is changed)" */
    private static void promises42To47ChangeNothing() {
        String[] names = {"totalIn", "goneIn", "hoursUntilDry", "sunWanted", "bestEdge", "bestSwap", "meanLevel", "digest"};
        int[][] arguments = {{40}, {40}, {}, {40}, {0, 40}, {0}, {}, {}};
        for (Scene scene : Scene.values()) {
            String untouched = Story.of(scene.stairs());
            for (int row = 0; row < names.length; row++) {
                PuddleStairs stairs = scene.stairs();
                String first = Calls.answer(stairs, names[row], arguments[row]);
                Check.dueText(names[row] + " twice on " + scene, Calls.answer(stairs, names[row], arguments[row]), first);
                Check.dueText("the story of " + scene + " behind " + names[row], Story.of(stairs), untouched);
            }
        }
    }

    /** "how much goes over the last edge" */
    private static void promise43FromTheLastEdge() {
        PuddleStairs stairs = Check.laid(new int[][] {{0, 0}, {99, 49}});
        stairs.setSun(0);
        Check.due("goneIn(1), the last edge alone", stairs.goneIn(1), 48);
        stairs.rain(1, 1, -48);
        Check.due("goneIn(1), just up to the last edge", stairs.goneIn(1), 0);
        stairs.rain(1, 1, 1);
        Check.due("goneIn(1), one more than the last edge", stairs.goneIn(1), 1);
        Check.due("goneIn(40), one more than the last edge", stairs.goneIn(40), 1);
        Check.due("gone() behind goneIn", stairs.gone(), 0);
    }

    /** "0 if they are now" */
    private static void promise44ZeroIfTheyAreNow() {
        Check.due("hoursUntilDry() of a new object", new PuddleStairs().hoursUntilDry(), 0);
        Check.due("hoursUntilDry() of 0", raised(0).hoursUntilDry(), 0);
        Check.due("hoursUntilDry() of -1", raised(-1).hoursUntilDry(), 0);
        Check.due("hoursUntilDry() of 1", raised(1).hoursUntilDry(), 1);
        PuddleStairs shady = raised(0);
        shady.setSun(0);
        Check.due("hoursUntilDry() of 0 without sun", shady.hoursUntilDry(), 0);
        PuddleStairs last = new PuddleStairs();
        last.rain(3, 7, 1);
        Check.due("hoursUntilDry() of the last one alone", last.hoursUntilDry(), 1);
    }

    /** "at most 60; -1 if not by then" */
    private static void promise44AtMostSixty() {
        for (int sun = 1; sun <= 9; sun++) {
            for (int more = -1; more <= 1; more++) {
                PuddleStairs stairs = raised(60 * sun + more);
                stairs.setSun(sun);
                stairs.setEdge(0, 999);
                int want = more > 0 ? -1 : 60;
                want = sun == 1 && more < 0 ? 59 : want;
                Check.due("hoursUntilDry() of " + (60 * sun + more) + " with sun " + sun, stairs.hoursUntilDry(), want);
            }
        }
        PuddleStairs stairs = raised(50);
        stairs.setSun(0);
        Check.due("hoursUntilDry() without sun", stairs.hoursUntilDry(), -1);
        stairs.setEdge(0, 0);
        Check.due("hoursUntilDry() without sun, over an edge of 0", stairs.hoursUntilDry(), 1);
    }

    /** Behind an hour the last puddle has more than ahead of it. */
    private static void promise44WaterOnItsWay() {
        PuddleStairs stairs = Check.laid(new int[][] {{40, -5}});
        stairs.setEdge(0, 0);
        stairs.setEdge(1, 99);
        Check.due("hoursUntilDry() with water on its way", stairs.hoursUntilDry(), 1 + 34);
        Check.due("sunWanted(1) with water on its way", stairs.sunWanted(1), -1);
        Check.due("sunWanted(4) with water on its way", stairs.sunWanted(4), 9);
        Check.due("sunWanted(5) with water on its way", stairs.sunWanted(5), 7);
    }

    /** "the least sun, 0 to 9, with which all puddles would be dry behind them" */
    private static void promise45TheLeastSun() {
        for (int sun = 1; sun <= 9; sun++) {
            for (int hours : new int[] {1, 39, 40}) {
                PuddleStairs stairs = raised(sun * hours);
                stairs.setEdge(0, 999);
                stairs.setSun(9 - sun);
                Check.due("sunWanted(" + hours + ") of " + sun * hours, stairs.sunWanted(hours), sun);
                Check.due("sun() behind it", stairs.sun(), 9 - sun);
                stairs.rain(0, 0, 1);
                Check.due("sunWanted(" + hours + ") of one more", stairs.sunWanted(hours), sun == 9 ? -1 : sun + 1);
            }
        }
        Check.due("sunWanted(1) of 0", raised(0).sunWanted(1), 0);
        Check.due("sunWanted(40) of -1", raised(-1).sunWanted(40), 0);
        PuddleStairs last = new PuddleStairs();
        last.rain(3, 7, 9);
        Check.due("sunWanted(1) of the last one alone", last.sunWanted(1), 9);
    }

    /** "-1 if 9 does not do" */
    private static void promise45NineDoesNotDo() {
        PuddleStairs stairs = raised(361);
        stairs.setEdge(0, 999);
        Check.due("sunWanted(40) of 361", stairs.sunWanted(40), -1);
        Check.due("sunWanted(1) of 361", stairs.sunWanted(1), -1);
        Check.noArgument(stairs, "sunWanted(0)", () -> stairs.sunWanted(0));
        Check.noArgument(stairs, "sunWanted(41)", () -> stairs.sunWanted(41));
        stairs.rain(0, 0, -1);
        Check.due("sunWanted(40) of 360", stairs.sunWanted(40), 9);
    }

    /** "of 0, 10, 20 and so on to 300" */
    private static void promise46ZeroToThreeHundred() {
        int[] levels = {-5, 0, 1, 10, 11, 20, 21, 280, 281, 290, 291, 299, 300, 301, 310, 999};
        int[] want = {0, 0, 10, 10, 20, 20, 30, 280, 290, 290, 300, 300, 300, 300, 300, 300};
        for (int row = 0; row < levels.length; row++) {
            for (int edge : new int[] {0, 5, 50, 999}) {
                PuddleStairs stairs = raised(levels[row]);
                stairs.setSun(0);
                stairs.setEdge(0, edge);
                Check.due("bestEdge(0, 1) of " + levels[row], stairs.bestEdge(0, 1), want[row]);
                Check.due("bestEdge(0, 40) of " + levels[row], stairs.bestEdge(0, 40), want[row]);
                Check.due("edgeOf(0) behind it", stairs.edgeOf(0), edge);
            }
        }
    }

    /** "of several the smallest" */
    private static void promise46OfSeveralTheSmallest() {
        PuddleStairs stairs = Check.laid(new int[][] {{0, 99}});
        stairs.setSun(0);
        Check.due("bestEdge(0, 1), where each edge does the same", stairs.bestEdge(0, 1), 0);
        Check.due("bestEdge(1, 1), where 100 does and 110 too", stairs.bestEdge(1, 1), 100);
        PuddleStairs low = Check.laid(new int[][] {{70, -20}});
        low.setSun(0);
        low.setEdge(1, 0);
        Check.due("bestEdge(0, 1), with room in the next one", low.bestEdge(0, 1), 50);
        Check.due("bestEdge(1, 1), with room in the one ahead", low.bestEdge(1, 1), 0);
        Check.noIndex(low, "bestEdge(2, 1)", () -> low.bestEdge(2, 1));
        Check.noArgument(low, "bestEdge(1, 0)", () -> low.bestEdge(1, 0));
        Check.noArgument(low, "bestEdge(1, 41)", () -> low.bestEdge(1, 41));
    }

    /** "with which the least would go over the last edge in them" */
    private static void promise46InAllTheHours() {
        PuddleStairs stairs = Check.laid(new int[][] {{60, 0}, {0, 99}});
        stairs.setEdge(1, 999);
        Check.due("bestEdge(1, 1) with sun", stairs.bestEdge(1, 1), 100);
        stairs.setSun(9);
        Check.due("bestEdge(1, 1) with more sun", stairs.bestEdge(1, 1), 90);
        Check.due("bestEdge(1, 40) with more sun", stairs.bestEdge(1, 40), 90);
        Check.due("bestEdge(0, 40) of an edge that keeps all", stairs.bestEdge(0, 40), 0);
    }

    /** "of several the smallest number" */
    private static void promise47OfSeveralTheSmallestNumber() {
        PuddleStairs equal = new PuddleStairs();
        equal.lay(8, 2);
        for (int flight = 0; flight < 8; flight++) {
            Check.due("bestSwap(" + flight + ") of equal ones", equal.bestSwap(flight), 0);
        }
        PuddleStairs stairs = Check.laid(new int[][] {{0}, {5}, {1}, {1}});
        Check.due("bestSwap(1), where two are far behind", stairs.bestSwap(1), 3);
        Check.due("bestSwap(2), where each does something", stairs.bestSwap(2), 1);
        Check.due("bestSwap(3), where the second one does most", stairs.bestSwap(3), 1);
        Check.due("bestSwap(0), where none does better", stairs.bestSwap(0), 0);
        PuddleStairs two = Check.laid(new int[][] {{1}, {2}, {0}});
        Check.due("bestSwap(2), where two others do the same", two.bestSwap(2), 0);
        PuddleStairs three = Check.laid(new int[][] {{0}, {2}, {3}, {1}});
        Check.due("bestSwap(3), where two others do the same", three.bestSwap(3), 1);
    }

    /** "itself counts" */
    private static void promise47ItselfCounts() {
        Check.due("bestSwap(0) of one flight", raised(7).bestSwap(0), 0);
        PuddleStairs stairs = new PuddleStairs();
        stairs.lay(8, 1);
        for (int flight = 0; flight < 8; flight++) {
            stairs.rain(flight, 0, flight);
        }
        for (int flight = 0; flight < 8; flight++) {
            Check.due("bestSwap(" + flight + ") of rising ones", stairs.bestSwap(flight), flight);
        }
        stairs.swap(0, 7);
        Check.due("bestSwap(0) of the ends swapped", stairs.bestSwap(0), 7);
        Check.due("bestSwap(7) of the ends swapped", stairs.bestSwap(7), 0);
        Check.noIndex(stairs, "bestSwap(8)", () -> stairs.bestSwap(8));
        Check.noIndex(stairs, "bestSwap(-1)", () -> stairs.bestSwap(-1));
    }

    private static void promise48MeanLevel() {
        Check.dueDouble("meanLevel() of one", raised(-7).meanLevel(), -7.0);
        Check.dueDouble("meanLevel() of 0", raised(0).meanLevel(), 0.0);
        PuddleStairs stairs = new PuddleStairs();
        stairs.lay(8, 16);
        stairs.rain(7, 15, 1);
        Check.dueDouble("meanLevel() of a single drop on 128", stairs.meanLevel(), 1.0 / 128);
        stairs.rain(7, 15, -2);
        Check.dueDouble("meanLevel() below 0", stairs.meanLevel(), -1.0 / 128);
        stairs.lay(1, 7);
        stairs.rain(0, 3, 5);
        Check.dueDouble("meanLevel() that is no whole number", stairs.meanLevel(), 5.0 / 7);
    }

    /** "which wraps around as a 64-bit integer" */
    private static void promise49WrapsAround() {
        for (Scene scene : Scene.values()) {
            PuddleStairs stairs = scene.stairs();
            BigInteger whole = wholeDigest(stairs);
            Check.due("the digest of " + scene + " needs more than 64 bits", whole.bitLength() > 64 ? 1 : 0, 1);
            Check.due("digest() of " + scene, stairs.digest(), whole.longValue());
        }
        PuddleStairs low = raised(-99);
        Check.due("digest() with numbers below 0", low.digest(), wholeDigest(low).longValue());
    }

    /** The checksum from the answers of the calls that the document tells, without any wrapping. */
    private static BigInteger wholeDigest(PuddleStairs stairs) {
        BigInteger d = BigInteger.valueOf(2281);
        d = with(d, stairs.flights(), stairs.steps(), stairs.hours(), stairs.sun(), stairs.marks(), stairs.deeds());
        d = with(d, stairs.gone(), stairs.total(), stairs.dry(), stairs.driestFlight(), stairs.outOfOrder());
        d = with(d, stairs.hoursUntilDry(), stairs.totalIn(3), stairs.goneIn(3), stairs.sunWanted(5));
        int flights = stairs.flights();
        int steps = stairs.steps();
        int marks = stairs.marks();
        for (int flight = 0; flight < flights; flight++) {
            d = with(d, stairs.flightSum(flight), stairs.bestRun(flight), stairs.longestDry(flight));
            d = with(d, stairs.highestAt(flight), stairs.bestSwap(flight));
            for (int step = 0; step < steps; step++) {
                d = with(d, stairs.levelAt(flight, step));
            }
        }
        for (int step = 0; step < steps; step++) {
            d = with(d, stairs.edgeOf(step), stairs.stepSum(step));
        }
        for (int mark = 0; mark < marks; mark++) {
            d = with(d, stairs.changedSince(mark));
        }
        return d;
    }

    private static BigInteger with(BigInteger start, long... numbers) {
        BigInteger d = start;
        for (long number : numbers) {
            d = d.multiply(BigInteger.valueOf(31)).add(BigInteger.valueOf(number));
        }
        return d;
    }
}
