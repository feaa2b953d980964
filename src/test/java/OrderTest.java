/** Promises 35 to 41: levels in order. */
final class OrderTest {
    private OrderTest() {
    }

    public static void main(String[] args) {
        promise35LowestIn();
        promise36HighestAt();
        promise37UpTo();
        promise38LevelInOrder();
        promise39OutOfOrder();
        promise40Alike();
        promise41ChangedSince();
        Check.end();
    }

    private static PuddleStairs someStairs() {
        return Check.laid(new int[][] {{3, -2, 7, 7}, {3, 9, -5, 7}, {-1, -9, -1, -4}});
    }

    private static void promise35LowestIn() {
        PuddleStairs stairs = someStairs();
        Check.due("lowestIn all", stairs.lowestIn(0, 0, 2, 3), -9);
        Check.due("lowestIn(0, 0, 1, 1)", stairs.lowestIn(0, 0, 1, 1), -2);
        Check.due("lowestIn(0, 2, 0, 3)", stairs.lowestIn(0, 2, 0, 3), 7);
        Check.due("lowestIn(1, 3, 1, 3)", stairs.lowestIn(1, 3, 1, 3), 7);
        Check.due("lowestIn(1, 2, 2, 3)", stairs.lowestIn(1, 2, 2, 3), -5);
        Check.noIndex(stairs, "lowestIn(-1, 0, 0, 0)", () -> stairs.lowestIn(-1, 0, 0, 0));
        Check.noIndex(stairs, "lowestIn(0, -1, 0, 0)", () -> stairs.lowestIn(0, -1, 0, 0));
        Check.noIndex(stairs, "lowestIn(0, 0, 3, 0)", () -> stairs.lowestIn(0, 0, 3, 0));
        Check.noIndex(stairs, "lowestIn(0, 0, 0, 4)", () -> stairs.lowestIn(0, 0, 0, 4));
        Check.noIndex(stairs, "lowestIn(1, 0, 0, 4)", () -> stairs.lowestIn(1, 0, 0, 4));
        Check.noArgument(stairs, "lowestIn(1, 0, 0, 0)", () -> stairs.lowestIn(1, 0, 0, 0));
        Check.noArgument(stairs, "lowestIn(0, 1, 0, 0)", () -> stairs.lowestIn(0, 1, 0, 0));
    }

    private static void promise36HighestAt() {
        PuddleStairs stairs = someStairs();
        Check.due("highestAt(0)", stairs.highestAt(0), 2);
        Check.due("highestAt(1)", stairs.highestAt(1), 1);
        Check.due("highestAt(2)", stairs.highestAt(2), 0);
        Check.due("highestAt of rising ones", Check.laid(new int[][] {{-3, -2, -1}}).highestAt(0), 2);
        Check.noIndex(stairs, "highestAt(-1)", () -> stairs.highestAt(-1));
        Check.noIndex(stairs, "highestAt(3)", () -> stairs.highestAt(3));
    }

    private static void promise37UpTo() {
        PuddleStairs stairs = someStairs();
        Check.due("upTo(-10)", stairs.upTo(-10), 0);
        Check.due("upTo(-9)", stairs.upTo(-9), 1);
        Check.due("upTo(6)", stairs.upTo(6), 8);
        Check.due("upTo(7)", stairs.upTo(7), 11);
        Check.due("upTo(greatest)", stairs.upTo(Integer.MAX_VALUE), 12);
        Check.due("upTo(least)", stairs.upTo(Integer.MIN_VALUE), 0);
    }

    private static void promise38LevelInOrder() {
        PuddleStairs stairs = someStairs();
        int[] want = {-9, -5, -4, -2, -1, -1, 3, 3, 7, 7, 7, 9};
        for (int place = 0; place < want.length; place++) {
            Check.due("levelInOrder(" + place + ")", stairs.levelInOrder(place), want[place]);
        }
        Check.noIndex(stairs, "levelInOrder(-1)", () -> stairs.levelInOrder(-1));
        Check.noIndex(stairs, "levelInOrder(12)", () -> stairs.levelInOrder(12));
    }

    private static void promise39OutOfOrder() {
        Check.due("outOfOrder() of falling ones", Check.laid(new int[][] {{6, 5, 4}, {3, 2, 1}}).outOfOrder(), 15);
        Check.due("outOfOrder() of rising ones", Check.laid(new int[][] {{1, 2, 3}, {4, 5, 6}}).outOfOrder(), 0);
        Check.due("outOfOrder() of equal ones", Check.laid(new int[][] {{4, 4}, {4, 4}}).outOfOrder(), 0);
        Check.due("outOfOrder() in flights alone", Check.laid(new int[][] {{2, 1}, {4, 3}}).outOfOrder(), 2);
        Check.due("outOfOrder() between flights alone", Check.laid(new int[][] {{1, 4}, {2, 3}}).outOfOrder(), 2);
        PuddleStairs stairs = new PuddleStairs();
        stairs.lay(8, 16);
        for (int number = 0; number < 128; number++) {
            stairs.rain(number / 16, number % 16, 64 - number);
        }
        Check.due("outOfOrder() of 128 falling ones", stairs.outOfOrder(), 8128);
    }

    private static void promise40Alike() {
        PuddleStairs stairs = someStairs();
        Check.due("alike(0, 1)", stairs.alike(0, 1), 2);
        Check.due("alike(1, 0)", stairs.alike(1, 0), 2);
        Check.due("alike(1, 2)", stairs.alike(1, 2), 0);
        Check.due("alike(2, 2)", stairs.alike(2, 2), 4);
        Check.noIndex(stairs, "alike(-1, 0)", () -> stairs.alike(-1, 0));
        Check.noIndex(stairs, "alike(3, 0)", () -> stairs.alike(3, 0));
        Check.noIndex(stairs, "alike(0, -1)", () -> stairs.alike(0, -1));
        Check.noIndex(stairs, "alike(0, 3)", () -> stairs.alike(0, 3));
    }

    private static void promise41ChangedSince() {
        PuddleStairs stairs = someStairs();
        stairs.mark();
        Check.due("changedSince(0) at once", stairs.changedSince(0), 0);
        stairs.splash(0, 1, 1, 2, 5);
        stairs.mark();
        stairs.rain(2, 3, -1);
        Check.due("changedSince(0)", stairs.changedSince(0), 5);
        Check.due("changedSince(1)", stairs.changedSince(1), 1);
        stairs.rain(2, 3, 1);
        Check.due("changedSince(1) as it was", stairs.changedSince(1), 0);
        Check.noIndex(stairs, "changedSince(-1)", () -> stairs.changedSince(-1));
        Check.noIndex(stairs, "changedSince(2)", () -> stairs.changedSince(2));
    }
}
