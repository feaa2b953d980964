/** Promises 1 to 13: a new object, and the deeds. */
final class DeedsTest {
    private DeedsTest() {
    }

    public static void main(String[] args) {
        promise1NewObject();
        promise2Lay();
        promise2LayKeepsHoursSunAndGone();
        promise3Rain();
        promise4Splash();
        promise5Swap();
        promise6Turn();
        promise7Bail();
        promise8PassHours();
        promise8AnHour();
        promise9Mark();
        promise10Back();
        promise11Undo();
        promise11ThirtyDeedsAreKept();
        promise11EachDeedIsUndone();
        promise12SetSun();
        promise13SetEdge();
        Check.end();
    }

    private static void promise1NewObject() {
        PuddleStairs stairs = new PuddleStairs();
        Check.levelsDue("new", stairs, new int[4][8]);
        Check.due("new: marks()", stairs.marks(), 0);
        Check.due("new: deeds()", stairs.deeds(), 0);
        Check.due("new: hours()", stairs.hours(), 0);
        Check.due("new: sun()", stairs.sun(), 1);
        Check.due("new: gone()", stairs.gone(), 0);
        for (int step = 0; step < 8; step++) {
            Check.due("new: edgeOf(" + step + ")", stairs.edgeOf(step), 50);
        }
    }

    private static void promise2Lay() {
        PuddleStairs stairs = new PuddleStairs();
        Check.due("lay(8, 16)", stairs.lay(8, 16), 128);
        stairs.splash(0, 0, 7, 15, 9);
        stairs.setEdge(15, 3);
        stairs.mark();
        Check.due("lay(1, 1)", stairs.lay(1, 1), 1);
        Check.due("marks() behind lay", stairs.marks(), 0);
        Check.due("deeds() behind lay", stairs.deeds(), 0);
        Check.noIndex(stairs, "back(0) behind lay", () -> stairs.back(0));
        Check.noState(stairs, "undo() behind lay", stairs::undo);
        Check.due("lay(8, 16) again", stairs.lay(8, 16), 128);
        Check.levelsDue("lay(8, 16) again", stairs, new int[8][16]);
        Check.due("edgeOf(15) behind lay", stairs.edgeOf(15), 50);
        Check.due("lay(8, 1)", stairs.lay(8, 1), 8);
        Check.due("lay(1, 16)", stairs.lay(1, 16), 16);
        Check.noArgument(stairs, "lay(0, 1)", () -> stairs.lay(0, 1));
        Check.noArgument(stairs, "lay(9, 1)", () -> stairs.lay(9, 1));
        Check.noArgument(stairs, "lay(1, 0)", () -> stairs.lay(1, 0));
        Check.noArgument(stairs, "lay(1, 17)", () -> stairs.lay(1, 17));
        Check.noArgument(stairs, "lay(least, greatest)", () -> stairs.lay(Integer.MIN_VALUE, Integer.MAX_VALUE));
    }

    private static void promise2LayKeepsHoursSunAndGone() {
        PuddleStairs stairs = Check.laid(new int[][] {{99}});
        stairs.setSun(4);
        Check.due("passHours(2)", stairs.passHours(2), 45);
        stairs.lay(2, 2);
        Check.due("hours() behind lay", stairs.hours(), 2);
        Check.due("sun() behind lay", stairs.sun(), 4);
        Check.due("gone() behind lay", stairs.gone(), 45);
    }

    private static void promise3Rain() {
        PuddleStairs stairs = new PuddleStairs();
        Check.due("rain(1, 2, 99)", stairs.rain(1, 2, 99), 99);
        Check.due("rain(1, 2, -99)", stairs.rain(1, 2, -99), 0);
        Check.due("rain(1, 2, -99) again", stairs.rain(1, 2, -99), -99);
        Check.due("rain(3, 7, 0)", stairs.rain(3, 7, 0), 0);
        Check.due("deeds() behind four rains", stairs.deeds(), 4);
        int[][] want = new int[4][8];
        want[1][2] = -99;
        Check.levelsDue("rain", stairs, want);
        Check.noIndex(stairs, "rain(-1, 0, 1)", () -> stairs.rain(-1, 0, 1));
        Check.noIndex(stairs, "rain(4, 0, 1)", () -> stairs.rain(4, 0, 1));
        Check.noIndex(stairs, "rain(0, -1, 1)", () -> stairs.rain(0, -1, 1));
        Check.noIndex(stairs, "rain(0, 8, 1)", () -> stairs.rain(0, 8, 1));
        Check.noIndex(stairs, "rain(0, 8, 100)", () -> stairs.rain(0, 8, 100));
        Check.noArgument(stairs, "rain(0, 0, 100)", () -> stairs.rain(0, 0, 100));
        Check.noArgument(stairs, "rain(0, 0, -100)", () -> stairs.rain(0, 0, -100));
    }

    private static void promise4Splash() {
        PuddleStairs stairs = Check.laid(new int[][] {{1, 2, 3}, {4, 5, 6}, {7, 8, 9}});
        Check.due("splash(1, 0, 2, 1, 99)", stairs.splash(1, 0, 2, 1, 99), 4);
        Check.levelsDue("splash", stairs, new int[][] {{1, 2, 3}, {103, 104, 6}, {106, 107, 9}});
        Check.due("splash(0, 2, 0, 2, -99)", stairs.splash(0, 2, 0, 2, -99), 1);
        Check.due("splash(0, 0, 2, 2, 0)", stairs.splash(0, 0, 2, 2, 0), 9);
        Check.levelsDue("splash less", stairs, new int[][] {{1, 2, -96}, {103, 104, 6}, {106, 107, 9}});
        Check.due("deeds() behind three splashes", stairs.deeds(), 12);
        Check.noIndex(stairs, "splash(-1, 0, 0, 0, 1)", () -> stairs.splash(-1, 0, 0, 0, 1));
        Check.noIndex(stairs, "splash(0, -1, 0, 0, 1)", () -> stairs.splash(0, -1, 0, 0, 1));
        Check.noIndex(stairs, "splash(0, 0, 3, 0, 1)", () -> stairs.splash(0, 0, 3, 0, 1));
        Check.noIndex(stairs, "splash(0, 0, 0, 3, 1)", () -> stairs.splash(0, 0, 0, 3, 1));
        Check.noIndex(stairs, "splash(3, 0, 0, 0, 100)", () -> stairs.splash(3, 0, 0, 0, 100));
        Check.noIndex(stairs, "splash(2, 0, -1, 0, 1)", () -> stairs.splash(2, 0, -1, 0, 1));
        Check.noArgument(stairs, "splash(1, 0, 0, 0, 1)", () -> stairs.splash(1, 0, 0, 0, 1));
        Check.noArgument(stairs, "splash(0, 1, 1, 0, 1)", () -> stairs.splash(0, 1, 1, 0, 1));
        Check.noArgument(stairs, "splash(0, 0, 0, 0, 100)", () -> stairs.splash(0, 0, 0, 0, 100));
        Check.noArgument(stairs, "splash(0, 0, 0, 0, -100)", () -> stairs.splash(0, 0, 0, 0, -100));
    }

    private static void promise5Swap() {
        PuddleStairs stairs = Check.laid(new int[][] {{1, 2, 3}, {4, 5, 6}, {1, 2, 9}});
        Check.due("swap(2, 0)", stairs.swap(2, 0), 1);
        Check.levelsDue("swap", stairs, new int[][] {{1, 2, 9}, {4, 5, 6}, {1, 2, 3}});
        Check.due("swap(0, 1)", stairs.swap(0, 1), 3);
        Check.levelsDue("swap again", stairs, new int[][] {{4, 5, 6}, {1, 2, 9}, {1, 2, 3}});
        Check.due("swap(1, 1)", stairs.swap(1, 1), 0);
        Check.due("deeds() behind three swaps", stairs.deeds(), 12);
        Check.levelsDue("swap with itself", stairs, new int[][] {{4, 5, 6}, {1, 2, 9}, {1, 2, 3}});
        Check.noIndex(stairs, "swap(-1, 0)", () -> stairs.swap(-1, 0));
        Check.noIndex(stairs, "swap(3, 0)", () -> stairs.swap(3, 0));
        Check.noIndex(stairs, "swap(0, -1)", () -> stairs.swap(0, -1));
        Check.noIndex(stairs, "swap(0, 3)", () -> stairs.swap(0, 3));
    }

    private static void promise6Turn() {
        PuddleStairs stairs = Check.laid(new int[][] {{1, 2, 3, 4, 1}, {5, 6, 7, 8, 9}});
        Check.due("turn(0)", stairs.turn(0), 2);
        Check.due("turn(1)", stairs.turn(1), 4);
        Check.levelsDue("turn", stairs, new int[][] {{1, 4, 3, 2, 1}, {9, 8, 7, 6, 5}});
        PuddleStairs even = Check.laid(new int[][] {{1, 2, 2, 3}});
        Check.due("turn(0) of four", even.turn(0), 2);
        Check.levelsDue("turn of four", even, new int[][] {{3, 2, 2, 1}});
        PuddleStairs single = Check.laid(new int[][] {{7}});
        Check.due("turn(0) of one", single.turn(0), 0);
        Check.due("deeds() behind turn of one", single.deeds(), 2);
        Check.noIndex(stairs, "turn(-1)", () -> stairs.turn(-1));
        Check.noIndex(stairs, "turn(2)", () -> stairs.turn(2));
    }

    private static void promise7Bail() {
        PuddleStairs stairs = Check.laid(new int[][] {{9, 9, 9, 9}, {5, -3, 6, 8}});
        Check.due("bail(1, 9)", stairs.bail(1, 9), 9);
        Check.levelsDue("bail", stairs, new int[][] {{9, 9, 9, 9}, {0, -3, 2, 8}});
        Check.due("bail(1, 1)", stairs.bail(1, 1), 1);
        Check.due("bail(1, 999)", stairs.bail(1, 999), 9);
        Check.levelsDue("bail all", stairs, new int[][] {{9, 9, 9, 9}, {0, -3, 0, 0}});
        Check.due("bail(1, 5) of none", stairs.bail(1, 5), 0);
        Check.due("deeds() behind four bails", stairs.deeds(), 12);
        Check.noIndex(stairs, "bail(-1, 1)", () -> stairs.bail(-1, 1));
        Check.noIndex(stairs, "bail(2, 1)", () -> stairs.bail(2, 1));
        Check.noIndex(stairs, "bail(2, 0)", () -> stairs.bail(2, 0));
        Check.noArgument(stairs, "bail(0, 0)", () -> stairs.bail(0, 0));
        Check.noArgument(stairs, "bail(0, 1000)", () -> stairs.bail(0, 1000));
    }

    private static void promise8PassHours() {
        PuddleStairs stairs = Check.laid(new int[][] {{90, 0}});
        stairs.setEdge(1, 20);
        Check.due("passHours(1)", stairs.passHours(1), 19);
        Check.levelsDue("passHours(1)", stairs, new int[][] {{50, 20}});
        Check.due("passHours(40)", stairs.passHours(40), 0);
        Check.levelsDue("passHours(40)", stairs, new int[][] {{10, 0}});
        Check.due("hours()", stairs.hours(), 41);
        Check.due("gone()", stairs.gone(), 19);
        Check.due("deeds(): hours together are one", stairs.deeds(), 4);
        Check.due("undo() of passHours(40)", stairs.undo(), 2);
        Check.levelsDue("undone passHours(40)", stairs, new int[][] {{50, 20}});
        Check.due("hours() behind undo", stairs.hours(), 41);
        Check.due("undo() of passHours(1)", stairs.undo(), 2);
        Check.due("gone() behind undo", stairs.gone(), 19);
        Check.noArgument(stairs, "passHours(0)", () -> stairs.passHours(0));
        Check.noArgument(stairs, "passHours(-1)", () -> stairs.passHours(-1));
        Check.noArgument(stairs, "passHours(41)", () -> stairs.passHours(41));
    }

    /** First the sun, then the edges, from flight to flight; water that arrives can go on at once. */
    private static void promise8AnHour() {
        PuddleStairs stairs = Check.laid(new int[][] {{2, 30, -5}, {3, -4, 99}});
        stairs.setSun(3);
        stairs.setEdge(0, 5);
        stairs.setEdge(1, 10);
        stairs.setEdge(2, 0);
        Check.due("an hour: passHours(1)", stairs.passHours(1), 96);
        Check.levelsDue("an hour", stairs, new int[][] {{0, 10, 0}, {5, 3, 0}});
        PuddleStairs shady = Check.laid(new int[][] {{4, 60}});
        shady.setSun(0);
        Check.due("an hour without sun", shady.passHours(1), 10);
        Check.levelsDue("an hour without sun", shady, new int[][] {{4, 50}});
    }

    private static void promise9Mark() {
        PuddleStairs stairs = new PuddleStairs();
        for (int number = 0; number < 12; number++) {
            Check.due("mark() " + number, stairs.mark(), number);
        }
        Check.due("marks()", stairs.marks(), 12);
        Check.due("deeds() behind marks", stairs.deeds(), 0);
        Check.noState(stairs, "mark() the 13th time", stairs::mark);
        stairs.lay(4, 8);
        Check.due("mark() behind lay", stairs.mark(), 0);
    }

    private static void promise10Back() {
        PuddleStairs stairs = Check.laid(new int[][] {{1, 2}, {3, 4}});
        stairs.mark();
        stairs.rain(0, 0, 5);
        stairs.mark();
        stairs.splash(0, 0, 1, 1, 1);
        Check.due("back(0)", stairs.back(0), 4);
        Check.levelsDue("back(0)", stairs, new int[][] {{1, 2}, {3, 4}});
        Check.due("back(1)", stairs.back(1), 1);
        Check.levelsDue("back(1)", stairs, new int[][] {{6, 2}, {3, 4}});
        Check.due("back(1) again", stairs.back(1), 0);
        Check.due("marks() behind back", stairs.marks(), 2);
        Check.due("deeds() behind back", stairs.deeds(), 9);
        stairs.undo();
        Check.due("undo() of back(1)", stairs.undo(), 1);
        Check.levelsDue("undone back(1)", stairs, new int[][] {{1, 2}, {3, 4}});
        Check.due("undo() of back(0)", stairs.undo(), 4);
        Check.levelsDue("undone back(0)", stairs, new int[][] {{7, 3}, {4, 5}});
        Check.noIndex(stairs, "back(-1)", () -> stairs.back(-1));
        Check.noIndex(stairs, "back(2)", () -> stairs.back(2));
    }

    private static void promise11Undo() {
        PuddleStairs stairs = new PuddleStairs();
        Check.noState(stairs, "undo() of a new object", stairs::undo);
        stairs.rain(0, 0, 5);
        stairs.setSun(7);
        stairs.setEdge(0, 1);
        stairs.mark();
        Check.due("undo()", stairs.undo(), 1);
        Check.due("sun() behind undo", stairs.sun(), 7);
        Check.due("edgeOf(0) behind undo", stairs.edgeOf(0), 1);
        Check.due("marks() behind undo", stairs.marks(), 1);
        Check.due("changedSince(0) behind undo", stairs.changedSince(0), 1);
        Check.due("deeds() behind undo", stairs.deeds(), 0);
        Check.noState(stairs, "undo() of nothing", stairs::undo);
    }

    private static void promise11ThirtyDeedsAreKept() {
        PuddleStairs stairs = new PuddleStairs();
        for (int deed = 1; deed <= 75; deed++) {
            stairs.rain(0, 0, 1);
            Check.due("deeds() behind " + deed, stairs.deeds(), Math.min(deed, 30));
        }
        for (int undone = 1; undone <= 20; undone++) {
            Check.due("undo() " + undone, stairs.undo(), 1);
            Check.due("levelAt(0, 0) behind undo " + undone, stairs.levelAt(0, 0), 75 - undone);
        }
        for (int deed = 1; deed <= 15; deed++) {
            stairs.rain(0, 1, 1);
        }
        Check.due("deeds() again", stairs.deeds(), 25);
        for (int undone = 0; undone < 25; undone++) {
            stairs.undo();
        }
        Check.due("levelAt(0, 0) as early as is kept", stairs.levelAt(0, 0), 45);
        Check.due("levelAt(0, 1) as early as is kept", stairs.levelAt(0, 1), 0);
        Check.noState(stairs, "undo() of the forgotten", stairs::undo);
    }

    private static void promise11EachDeedIsUndone() {
        PuddleStairs stairs = Check.laid(new int[][] {{60, 2, -1}, {4, 5, 70}});
        stairs.mark();
        stairs.splash(0, 0, 1, 2, 3);
        stairs.swap(0, 1);
        stairs.turn(0);
        stairs.bail(1, 64);
        stairs.passHours(2);
        stairs.back(0);
        Check.due("undo() of back", stairs.undo(), 6);
        Check.levelsDue("undone back", stairs, new int[][] {{49, 28, 5}, {0, 2, 0}});
        Check.due("undo() of passHours", stairs.undo(), 5);
        Check.levelsDue("undone passHours", stairs, new int[][] {{73, 8, 7}, {0, 4, 2}});
        Check.due("undo() of bail", stairs.undo(), 2);
        Check.levelsDue("undone bail", stairs, new int[][] {{73, 8, 7}, {63, 5, 2}});
        Check.due("undo() of turn", stairs.undo(), 2);
        Check.levelsDue("undone turn", stairs, new int[][] {{7, 8, 73}, {63, 5, 2}});
        Check.due("undo() of swap", stairs.undo(), 6);
        Check.due("undo() of splash", stairs.undo(), 6);
        Check.levelsDue("undone splash", stairs, new int[][] {{60, 2, -1}, {4, 5, 70}});
    }

    private static void promise12SetSun() {
        PuddleStairs stairs = new PuddleStairs();
        Check.due("setSun(9)", stairs.setSun(9), 1);
        Check.due("setSun(0)", stairs.setSun(0), 9);
        Check.due("sun()", stairs.sun(), 0);
        Check.due("deeds() behind setSun", stairs.deeds(), 0);
        Check.noArgument(stairs, "setSun(-1)", () -> stairs.setSun(-1));
        Check.noArgument(stairs, "setSun(10)", () -> stairs.setSun(10));
    }

    private static void promise13SetEdge() {
        PuddleStairs stairs = new PuddleStairs();
        Check.due("setEdge(7, 999)", stairs.setEdge(7, 999), 50);
        Check.due("setEdge(7, 0)", stairs.setEdge(7, 0), 999);
        Check.due("edgeOf(7)", stairs.edgeOf(7), 0);
        Check.due("edgeOf(6)", stairs.edgeOf(6), 50);
        Check.due("deeds() behind setEdge", stairs.deeds(), 0);
        Check.noIndex(stairs, "setEdge(-1, 5)", () -> stairs.setEdge(-1, 5));
        Check.noIndex(stairs, "setEdge(8, 5)", () -> stairs.setEdge(8, 5));
        Check.noIndex(stairs, "setEdge(8, 1000)", () -> stairs.setEdge(8, 1000));
        Check.noArgument(stairs, "setEdge(0, -1)", () -> stairs.setEdge(0, -1));
        Check.noArgument(stairs, "setEdge(0, 1000)", () -> stairs.setEdge(0, 1000));
    }
}
