/** Promises 1 to 13: each sentence that names a boundary case. What is refused for its numbers stands in RangesTest. */
final class DeedsBoundsTest {
    private DeedsBoundsTest() {
    }

    public static void main(String[] args) {
        theFullSceneIsFull();
        promise1StoresAreEmpty();
        promise2LayEmptiesFullStores();
        promise2LayLeavesNothingBehind();
        promise2RefusedLay();
        promise3LeastAndMostDrops();
        promise3RefusedRain();
        promise4SmallestAndGreatestPart();
        promise4RefusedSplash();
        promise5SwapWithItself();
        promise5FirstAndLastFlight();
        promise6TurnOfEachLength();
        promise7BailedJustSoMuch();
        promise7BailedTillNoneIsWet();
        promise7RefusedBail();
        promise8OneHourAndForty();
        promise8RefusedPassHours();
        promise9RefusedMark();
        promise10BackToAMark();
        promise10RefusedBack();
        promise11RefusedUndo();
        promise12LeastAndMostSun();
        promise13LeastAndMostEdge();
        severalExceptions();
        Check.end();
    }

    private static void theFullSceneIsFull() {
        for (Scene scene : new Scene[] {Scene.SMALLEST, Scene.FULL}) {
            Check.due("deeds() of " + scene, scene.stairs().deeds(), 30);
            Check.due("marks() of " + scene, scene.stairs().marks(), 12);
        }
        Check.due("gone() of FULL is more than 0", Scene.FULL.stairs().gone() > 0 ? 1 : 0, 1);
    }

    /** Behind refused calls the staircase has the story of one on which they were not called. */
    private static void storyStays(String what, Scene scene, String exception, String name, int... arguments) {
        PuddleStairs stairs = scene.stairs();
        for (int time = 0; time < 3; time++) {
            Check.dueText(what + " on " + scene, Calls.answer(stairs, name, arguments), "throws." + exception);
        }
        Check.dueText("the story behind " + what + " on " + scene, Story.of(stairs), Story.of(scene.stairs()));
    }

    /** "without marks and deeds, at the hour 0" */
    private static void promise1StoresAreEmpty() {
        PuddleStairs stairs = new PuddleStairs();
        Check.due("marks() of a new object", stairs.marks(), 0);
        Check.due("deeds() of a new object", stairs.deeds(), 0);
        Check.due("hours() of a new object", stairs.hours(), 0);
        Check.noIndex(stairs, "back(0) of a new object", () -> stairs.back(0));
        Check.noIndex(stairs, "changedSince(0) of a new object", () -> stairs.changedSince(0));
        Check.noState(stairs, "undo() of a new object", stairs::undo);
        PuddleStairs other = new PuddleStairs();
        stairs.rain(0, 0, 9);
        stairs.mark();
        Check.due("another object: levelAt(0, 0)", other.levelAt(0, 0), 0);
        Check.due("another object: deeds()", other.deeds(), 0);
        Check.due("another object: marks()", other.marks(), 0);
    }

    /** "all levels are 0, all edges 50, marks and deeds are gone; hours, the sun, and what is gone stay" */
    private static void promise2LayEmptiesFullStores() {
        PuddleStairs stairs = Scene.FULL.stairs();
        int hours = stairs.hours();
        long gone = stairs.gone();
        Check.due("lay(2, 3) as it was", stairs.lay(2, 3), 6);
        Check.levelsDue("lay(2, 3) as it was", stairs, new int[2][3]);
        for (int step = 0; step < 3; step++) {
            Check.due("edgeOf(" + step + ") behind lay", stairs.edgeOf(step), 50);
        }
        Check.due("marks() behind lay", stairs.marks(), 0);
        Check.due("deeds() behind lay", stairs.deeds(), 0);
        Check.due("hours() behind lay", stairs.hours(), hours);
        Check.due("sun() behind lay", stairs.sun(), 2);
        Check.due("gone() behind lay", stairs.gone(), gone);
        Check.noState(stairs, "undo() behind lay", stairs::undo);
        Check.noIndex(stairs, "back(0) behind lay", () -> stairs.back(0));
        for (int mark = 0; mark < 12; mark++) {
            Check.due("mark() behind lay", stairs.mark(), mark);
        }
        Check.noState(stairs, "the 13th mark() behind lay", stairs::mark);
        for (int deed = 1; deed <= 31; deed++) {
            stairs.rain(1, 2, 1);
            Check.due("deeds() behind lay and " + deed, stairs.deeds(), Math.min(deed, 30));
        }
        for (int undone = 0; undone < 30; undone++) {
            stairs.undo();
        }
        Check.due("the oldest deed kept behind lay", stairs.levelAt(1, 2), 1);
    }

    private static void promise2LayLeavesNothingBehind() {
        PuddleStairs stairs = new PuddleStairs();
        stairs.lay(8, 16);
        stairs.splash(0, 0, 7, 15, 77);
        for (int step = 0; step < 16; step++) {
            stairs.setEdge(step, 1);
        }
        stairs.lay(1, 1);
        Check.due("levelAt(0, 0) of the smaller one", stairs.levelAt(0, 0), 0);
        Check.due("edgeOf(0) of the smaller one", stairs.edgeOf(0), 50);
        stairs.lay(8, 16);
        Check.levelsDue("the greater one again", stairs, new int[8][16]);
        for (int step = 0; step < 16; step++) {
            Check.due("edgeOf(" + step + ") of the greater one again", stairs.edgeOf(step), 50);
        }
        Check.due("totalIn(1) of the greater one again", stairs.totalIn(1), 0);
    }

    private static void promise2RefusedLay() {
        for (Scene scene : Scene.values()) {
            storyStays("lay(0, 1)", scene, "IllegalArgumentException", "lay", 0, 1);
            storyStays("lay(9, 16)", scene, "IllegalArgumentException", "lay", 9, 16);
            storyStays("lay(1, 0)", scene, "IllegalArgumentException", "lay", 1, 0);
            storyStays("lay(8, 17)", scene, "IllegalArgumentException", "lay", 8, 17);
        }
    }

    /** "drops is not -99 to 99" */
    private static void promise3LeastAndMostDrops() {
        PuddleStairs stairs = new PuddleStairs();
        Check.due("rain of 99", stairs.rain(3, 7, 99), 99);
        Check.due("rain of 99 again", stairs.rain(3, 7, 99), 198);
        Check.due("rain of 0", stairs.rain(3, 7, 0), 198);
        Check.due("rain of -99", stairs.rain(3, 7, -99), 99);
        Check.due("rain of -99 again", stairs.rain(3, 7, -99), 0);
        Check.due("rain of -99 below 0", stairs.rain(3, 7, -99), -99);
        Check.due("levelAt(3, 7)", stairs.levelAt(3, 7), -99);
        Check.due("deeds() behind six rains", stairs.deeds(), 6);
    }

    private static void promise3RefusedRain() {
        for (Scene scene : Scene.values()) {
            storyStays("rain of 100", scene, "IllegalArgumentException", "rain", 0, 0, 100);
            storyStays("rain of -100", scene, "IllegalArgumentException", "rain", 0, 0, -100);
            storyStays("rain on no flight", scene, "IndexOutOfBoundsException", "rain", 8, 0, 1);
            storyStays("rain on no step", scene, "IndexOutOfBoundsException", "rain", 0, 16, 1);
        }
    }

    private static void promise4SmallestAndGreatestPart() {
        PuddleStairs stairs = new PuddleStairs();
        stairs.lay(8, 16);
        Check.due("splash over one", stairs.splash(7, 15, 7, 15, 99), 1);
        Check.due("splash over all", stairs.splash(0, 0, 7, 15, -99), 128);
        Check.due("splash over a flight", stairs.splash(7, 0, 7, 15, 0), 16);
        Check.due("splash over a step", stairs.splash(0, 15, 7, 15, 1), 8);
        Check.due("the last level", stairs.levelAt(7, 15), 1);
        Check.due("the first level", stairs.levelAt(0, 0), -99);
        Check.due("deeds() behind four splashes", stairs.deeds(), 4);
    }

    /** "the first one of flights or steps is greater than the last one, or drops is not -99 to 99" */
    private static void promise4RefusedSplash() {
        for (Scene scene : new Scene[] {Scene.FRESH, Scene.FULL, Scene.GREATEST}) {
            storyStays("splash, flights", scene, "IllegalArgumentException", "splash", 1, 0, 0, 2, 5);
            storyStays("splash, steps", scene, "IllegalArgumentException", "splash", 0, 2, 1, 1, 5);
            storyStays("splash of 100", scene, "IllegalArgumentException", "splash", 0, 0, 1, 2, 100);
            storyStays("splash of -100", scene, "IllegalArgumentException", "splash", 0, 0, 1, 2, -100);
            storyStays("splash to no step", scene, "IndexOutOfBoundsException", "splash", 0, 0, 1, 16, 5);
            storyStays("splash to no flight", scene, "IndexOutOfBoundsException", "splash", 0, 0, 8, 2, 5);
        }
    }

    /** "it can be the same" */
    private static void promise5SwapWithItself() {
        for (int flight = 0; flight < 3; flight++) {
            PuddleStairs stairs = Check.laid(new int[][] {{1, 2}, {3, 4}, {5, 6}});
            Check.due("swap with itself", stairs.swap(flight, flight), 0);
            Check.levelsDue("swap with itself", stairs, new int[][] {{1, 2}, {3, 4}, {5, 6}});
            Check.due("deeds() behind swap with itself", stairs.deeds(), 7);
            Check.due("undo() of swap with itself", stairs.undo(), 0);
        }
    }

    private static void promise5FirstAndLastFlight() {
        PuddleStairs stairs = new PuddleStairs();
        stairs.lay(8, 16);
        stairs.splash(0, 1, 0, 15, 4);
        Check.due("swap(0, 7)", stairs.swap(0, 7), 15);
        Check.due("flightSum(0)", stairs.flightSum(0), 0);
        Check.due("flightSum(7)", stairs.flightSum(7), 60);
        Check.due("levelAt(7, 0)", stairs.levelAt(7, 0), 0);
        Check.due("swap(7, 0)", stairs.swap(7, 0), 15);
        Check.due("flightSum(0) again", stairs.flightSum(0), 60);
        Check.due("swap of equal ones", stairs.swap(3, 4), 0);
    }

    /** "the level of its first step is that of its last one then, and so on" */
    private static void promise6TurnOfEachLength() {
        for (int steps = 1; steps <= 16; steps++) {
            int[][] levels = new int[3][steps];
            int[][] turned = new int[3][steps];
            for (int step = 0; step < steps; step++) {
                levels[0][step] = 50 + step;
                levels[1][step] = step - 3;
                levels[2][step] = -50 - step;
                turned[0][step] = 50 + step;
                turned[1][steps - 1 - step] = step - 3;
                turned[2][step] = -50 - step;
            }
            PuddleStairs stairs = Check.laid(levels);
            Check.due("turn(1) of " + steps + " steps", stairs.turn(1), steps - steps % 2);
            Check.levelsDue("turn(1) of " + steps + " steps", stairs, turned);
            stairs.turn(1);
            Check.levelsDue("turn(1) of " + steps + " steps, twice", stairs, levels);
        }
        PuddleStairs same = Check.laid(new int[][] {{3, 8, 8, 3}});
        Check.due("turn of one that reads the same", same.turn(0), 0);
        Check.due("deeds() behind it", same.deeds(), 5);
    }

    /** "till so much is bailed" */
    private static void promise7BailedJustSoMuch() {
        int[][] levels = {{9, 9, 9}, {4, -2, 3}, {9, 9, 9}};
        int[][][] want = {
            {{9, 9, 9}, {3, -2, 3}, {9, 9, 9}}, {{9, 9, 9}, {1, -2, 3}, {9, 9, 9}}, {{9, 9, 9}, {0, -2, 3}, {9, 9, 9}},
            {{9, 9, 9}, {0, -2, 2}, {9, 9, 9}}, {{9, 9, 9}, {0, -2, 1}, {9, 9, 9}}, {{9, 9, 9}, {0, -2, 0}, {9, 9, 9}},
            {{9, 9, 9}, {0, -2, 0}, {9, 9, 9}}, {{9, 9, 9}, {0, -2, 0}, {9, 9, 9}},
        };
        int[] drops = {1, 3, 4, 5, 6, 7, 8, 999};
        for (int row = 0; row < drops.length; row++) {
            PuddleStairs stairs = Check.laid(levels);
            Check.due("bail(1, " + drops[row] + ")", stairs.bail(1, drops[row]), Math.min(7, drops[row]));
            Check.levelsDue("bail(1, " + drops[row] + ")", stairs, want[row]);
        }
    }

    /** "or none is wet" */
    private static void promise7BailedTillNoneIsWet() {
        PuddleStairs stairs = new PuddleStairs();
        stairs.lay(2, 16);
        Check.due("bail of level 0", stairs.bail(0, 1), 0);
        stairs.splash(0, 0, 1, 15, -5);
        Check.due("bail below 0", stairs.bail(0, 999), 0);
        Check.due("the level below 0", stairs.levelAt(0, 0), -5);
        stairs.splash(0, 0, 1, 15, 69);
        Check.due("bail(1, 999) of 1024", stairs.bail(1, 999), 999);
        Check.due("what is left", stairs.flightSum(1), 25);
        Check.due("where it is left", stairs.levelAt(1, 15), 25);
        Check.due("bail(1, 26) of 25", stairs.bail(1, 26), 25);
        Check.due("bail(1, 1) of none", stairs.bail(1, 1), 0);
        Check.due("dryIn of the flight", stairs.dryIn(1, 0, 1, 15), 16);
        Check.due("the other flight", stairs.flightSum(0), 1024);
        Check.due("deeds(), those that bailed none too", stairs.deeds(), 7);
    }

    private static void promise7RefusedBail() {
        for (Scene scene : Scene.values()) {
            storyStays("bail of 0", scene, "IllegalArgumentException", "bail", 0, 0);
            storyStays("bail of -1", scene, "IllegalArgumentException", "bail", 0, -1);
            storyStays("bail of 1000", scene, "IllegalArgumentException", "bail", 0, 1000);
            storyStays("bail on no flight", scene, "IndexOutOfBoundsException", "bail", 8, 1);
        }
    }

    /** "together they are one deed", "hours is not 1 to 40" */
    private static void promise8OneHourAndForty() {
        PuddleStairs stairs = Check.laid(new int[][] {{99, 99}});
        stairs.setEdge(0, 60);
        stairs.setEdge(1, 30);
        Check.due("passHours(1)", stairs.passHours(1), 38 + 68);
        Check.due("deeds() behind passHours(1)", stairs.deeds(), 3);
        Check.levelsDue("passHours(1)", stairs, new int[][] {{60, 30}});
        stairs.setEdge(0, 25);
        Check.due("passHours(40)", stairs.passHours(40), 33);
        Check.due("deeds() behind passHours(40)", stairs.deeds(), 4);
        Check.due("gone() behind both", stairs.gone(), 139);
        Check.due("hours() behind both", stairs.hours(), 41);
        Check.due("undo() of forty hours", stairs.undo(), 2);
        Check.levelsDue("undone forty hours", stairs, new int[][] {{60, 30}});
        Check.due("undo() of one hour", stairs.undo(), 2);
        Check.levelsDue("undone one hour", stairs, new int[][] {{99, 99}});
    }

    private static void promise8RefusedPassHours() {
        for (Scene scene : Scene.values()) {
            storyStays("passHours(0)", scene, "IllegalArgumentException", "passHours", 0);
            storyStays("passHours(-1)", scene, "IllegalArgumentException", "passHours", -1);
            storyStays("passHours(41)", scene, "IllegalArgumentException", "passHours", 41);
        }
    }

    /** "if there are 12" */
    private static void promise9RefusedMark() {
        storyStays("mark()", Scene.FULL, "IllegalStateException", "mark");
        storyStays("mark()", Scene.SMALLEST, "IllegalStateException", "mark");
        Check.due("mark() where there is none", Scene.FRESH.stairs().mark(), 0);
        Check.due("mark() where there is one", Scene.GREATEST.stairs().mark(), 1);
    }

    /** "the mark stays" */
    private static void promise10BackToAMark() {
        PuddleStairs stairs = new PuddleStairs();
        stairs.lay(8, 16);
        stairs.mark();
        Check.due("back(0) where nothing changed", stairs.back(0), 0);
        Check.due("deeds() behind it", stairs.deeds(), 1);
        stairs.splash(0, 0, 7, 15, 1);
        Check.due("back(0) where all changed", stairs.back(0), 128);
        Check.due("marks() behind back", stairs.marks(), 1);
        stairs.rain(7, 15, 1);
        stairs.rain(0, 0, 1);
        Check.due("back(0) where the first and the last changed", stairs.back(0), 2);
        Check.due("changedSince(0) behind back", stairs.changedSince(0), 0);
        stairs.undo();
        Check.due("the last one behind back, undone", stairs.levelAt(7, 15), 1);
    }

    /** "if there is no such mark" */
    private static void promise10RefusedBack() {
        storyStays("back(0) without marks", Scene.FRESH, "IndexOutOfBoundsException", "back", 0);
        storyStays("back(1) with one mark", Scene.GREATEST, "IndexOutOfBoundsException", "back", 1);
        storyStays("back(12) with 12 marks", Scene.FULL, "IndexOutOfBoundsException", "back", 12);
        storyStays("back(-1) with 12 marks", Scene.FULL, "IndexOutOfBoundsException", "back", -1);
    }

    /** "if none is kept" */
    private static void promise11RefusedUndo() {
        storyStays("undo()", Scene.FRESH, "IllegalStateException", "undo");
        PuddleStairs stairs = Scene.FULL.stairs();
        for (int undone = 0; undone < 30; undone++) {
            stairs.undo();
        }
        Check.noState(stairs, "undo() of the 31st", stairs::undo);
        Check.due("marks() behind it", stairs.marks(), 12);
        Check.due("rain behind it", stairs.rain(0, 0, 0), stairs.levelAt(0, 0));
        Check.due("undo() of one that changed nothing", stairs.undo(), 0);
        Check.noState(stairs, "undo() behind it", stairs::undo);
    }

    private static void promise12LeastAndMostSun() {
        PuddleStairs stairs = Check.laid(new int[][] {{30}});
        Check.due("setSun(9)", stairs.setSun(9), 1);
        stairs.passHours(1);
        Check.due("the level behind a sun of 9", stairs.levelAt(0, 0), 21);
        Check.due("setSun(0)", stairs.setSun(0), 9);
        stairs.passHours(40);
        Check.due("the level behind a sun of 0", stairs.levelAt(0, 0), 21);
        Check.due("setSun(0) again", stairs.setSun(0), 0);
        for (Scene scene : Scene.values()) {
            storyStays("setSun(-1)", scene, "IllegalArgumentException", "setSun", -1);
            storyStays("setSun(10)", scene, "IllegalArgumentException", "setSun", 10);
        }
    }

    private static void promise13LeastAndMostEdge() {
        PuddleStairs stairs = new PuddleStairs();
        stairs.lay(8, 16);
        Check.due("setEdge(15, 999)", stairs.setEdge(15, 999), 50);
        Check.due("setEdge(0, 0)", stairs.setEdge(0, 0), 50);
        Check.due("setEdge(15, 0)", stairs.setEdge(15, 0), 999);
        Check.due("setEdge(0, 999)", stairs.setEdge(0, 999), 0);
        Check.due("edgeOf(0)", stairs.edgeOf(0), 999);
        Check.due("edgeOf(1)", stairs.edgeOf(1), 50);
        Check.due("edgeOf(14)", stairs.edgeOf(14), 50);
        Check.due("edgeOf(15)", stairs.edgeOf(15), 0);
        for (Scene scene : Scene.values()) {
            storyStays("setEdge(0, -1)", scene, "IllegalArgumentException", "setEdge", 0, -1);
            storyStays("setEdge(0, 1000)", scene, "IllegalArgumentException", "setEdge", 0, 1000);
            storyStays("setEdge(16, 1)", scene, "IndexOutOfBoundsException", "setEdge", 16, 1);
            storyStays("setEdge(-1, 1)", scene, "IndexOutOfBoundsException", "setEdge", -1, 1);
        }
    }

    /** "If several exceptions apply, the one that is named first is thrown." */
    private static void severalExceptions() {
        PuddleStairs stairs = Scene.FULL.stairs();
        Check.noIndex(stairs, "rain(2, 0, 100)", () -> stairs.rain(2, 0, 100));
        Check.noIndex(stairs, "rain(0, -1, -100)", () -> stairs.rain(0, -1, -100));
        Check.noIndex(stairs, "splash(2, 0, 0, 0, 1)", () -> stairs.splash(2, 0, 0, 0, 1));
        Check.noIndex(stairs, "splash(1, 0, 0, 3, 1)", () -> stairs.splash(1, 0, 0, 3, 1));
        Check.noIndex(stairs, "splash(0, 2, -1, 0, 100)", () -> stairs.splash(0, 2, -1, 0, 100));
        Check.noIndex(stairs, "splash(0, 0, 0, 3, -100)", () -> stairs.splash(0, 0, 0, 3, -100));
        Check.noIndex(stairs, "bail(2, 1000)", () -> stairs.bail(2, 1000));
        Check.noIndex(stairs, "setEdge(3, -1)", () -> stairs.setEdge(3, -1));
        Check.noIndex(stairs, "sumOf(1, 3, 0, 0)", () -> stairs.sumOf(1, 3, 0, 0));
        Check.noIndex(stairs, "dryIn(1, 2, 0, -1)", () -> stairs.dryIn(1, 2, 0, -1));
        Check.noIndex(stairs, "lowestIn(2, 2, 0, 0)", () -> stairs.lowestIn(2, 2, 0, 0));
        Check.noIndex(stairs, "bestEdge(3, 41)", () -> stairs.bestEdge(3, 41));
        Check.noArgument(stairs, "lay(0, 17)", () -> stairs.lay(0, 17));
        Check.noArgument(stairs, "splash(1, 2, 0, 0, 100)", () -> stairs.splash(1, 2, 0, 0, 100));
    }
}
