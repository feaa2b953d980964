/** Promises 14 to 21: what the staircase tells of itself. */
final class StaircaseTest {
    private StaircaseTest() {
    }

    public static void main(String[] args) {
        promises14And15FlightsAndSteps();
        promise16Hours();
        promise17Sun();
        promise18EdgeOf();
        promise19Marks();
        promise20Deeds();
        promise21Gone();
        theGreatestStaircase();
        Check.end();
    }

    private static void promises14And15FlightsAndSteps() {
        PuddleStairs stairs = new PuddleStairs();
        stairs.lay(8, 3);
        Check.due("flights() of 8 x 3", stairs.flights(), 8);
        Check.due("steps() of 8 x 3", stairs.steps(), 3);
        stairs.lay(1, 16);
        Check.due("flights() of 1 x 16", stairs.flights(), 1);
        Check.due("steps() of 1 x 16", stairs.steps(), 16);
    }

    private static void promise16Hours() {
        PuddleStairs stairs = new PuddleStairs();
        stairs.passHours(3);
        stairs.passHours(40);
        Check.due("hours()", stairs.hours(), 43);
        stairs.totalIn(5);
        stairs.goneIn(5);
        stairs.hoursUntilDry();
        Check.due("hours() behind what would be", stairs.hours(), 43);
    }

    private static void promise17Sun() {
        PuddleStairs stairs = new PuddleStairs();
        stairs.setSun(6);
        stairs.sunWanted(4);
        Check.due("sun()", stairs.sun(), 6);
    }

    private static void promise18EdgeOf() {
        PuddleStairs stairs = new PuddleStairs();
        stairs.lay(2, 3);
        stairs.setEdge(2, 17);
        stairs.bestEdge(2, 4);
        Check.due("edgeOf(0)", stairs.edgeOf(0), 50);
        Check.due("edgeOf(2)", stairs.edgeOf(2), 17);
        Check.noIndex(stairs, "edgeOf(-1)", () -> stairs.edgeOf(-1));
        Check.noIndex(stairs, "edgeOf(3)", () -> stairs.edgeOf(3));
        Check.noIndex(stairs, "edgeOf(16)", () -> stairs.edgeOf(16));
    }

    private static void promise19Marks() {
        PuddleStairs stairs = new PuddleStairs();
        stairs.mark();
        stairs.mark();
        stairs.back(0);
        Check.due("marks()", stairs.marks(), 2);
    }

    private static void promise20Deeds() {
        PuddleStairs stairs = new PuddleStairs();
        stairs.rain(0, 0, 0);
        stairs.splash(0, 0, 0, 0, 0);
        stairs.swap(1, 1);
        stairs.turn(0);
        stairs.bail(0, 1);
        stairs.passHours(1);
        stairs.mark();
        stairs.back(0);
        Check.due("deeds() of each kind, though nothing changes", stairs.deeds(), 7);
        stairs.undo();
        Check.due("deeds() behind undo", stairs.deeds(), 6);
    }

    private static void promise21Gone() {
        PuddleStairs stairs = Check.laid(new int[][] {{99}});
        stairs.setSun(0);
        stairs.mark();
        for (int time = 1; time <= 3; time++) {
            stairs.passHours(2);
            Check.due("gone() behind " + time, stairs.gone(), 49L * time);
            stairs.back(0);
        }
        stairs.goneIn(1);
        Check.due("gone() behind goneIn", stairs.gone(), 147);
    }

    /** 8 flights of 16 steps: each call that goes over all puddles stops at the last one. */
    private static void theGreatestStaircase() {
        PuddleStairs stairs = new PuddleStairs();
        stairs.lay(8, 16);
        stairs.mark();
        Check.due("splash over all", stairs.splash(0, 0, 7, 15, 9), 128);
        Check.due("bail(7, 999)", stairs.bail(7, 999), 144);
        Check.due("changedSince(0)", stairs.changedSince(0), 112);
        Check.due("dry()", stairs.dry(), 16);
        Check.due("dryAt(15)", stairs.dryAt(15), 127);
        Check.due("upTo(9)", stairs.upTo(9), 128);
        Check.due("levelInOrder(127)", stairs.levelInOrder(127), 9);
        Check.due("outOfOrder()", stairs.outOfOrder(), 112 * 16);
        Check.due("flightSum(6)", stairs.flightSum(6), 144);
        Check.due("stepSum(15)", stairs.stepSum(15), 63);
        Check.due("sumTo(7, 15)", stairs.sumTo(7, 15), 1008);
        Check.due("totalIn(8)", stairs.totalIn(8), 112);
        Check.due("hoursUntilDry()", stairs.hoursUntilDry(), 9);
        Check.due("bestSwap(7)", stairs.bestSwap(7), 0);
        Check.dueDouble("meanLevel()", stairs.meanLevel(), 7.875);
        stairs.rain(7, 15, 99);
        Check.due("passHours(40)", stairs.passHours(40), 48);
        Check.due("turn(7)", stairs.turn(7), 2);
        Check.due("back(0)", stairs.back(0), 1);
        Check.due("undo()", stairs.undo(), 1);
        Check.due("levelAt(7, 0)", stairs.levelAt(7, 0), 11);
    }
}
