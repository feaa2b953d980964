/** Each sentence of 'Terms' that names a boundary case, with a test of its own. */
final class TermsBoundsTest {
    private TermsBoundsTest() {
    }

    public static void main(String[] args) {
        oneToEightFlightsOfOneToSixteenSteps();
        fourFlightsOfEightStepsAtFirst();
        aLevelCanBeLessThanZero();
        dryIsZeroOrLessOtherwiseWet();
        theNumberOfAPuddle();
        aPartEndsAtItsFlightsAndSteps();
        theSunIsZeroToNine();
        edgesAreZeroTo999();
        anEdgeIsTheSameInAllFlights();
        thirtyDeedsAreKeptAndTheOldestIsForgotten();
        eachKindOfDeedForgetsTheOldestOne();
        whatIsNoDeedForgetsNone();
        aDeedBehindUndoingFromAFullStore();
        hoursAndWhatIsGoneStayBehindUndo();
        atMostTwelveMarks();
        eachMarkKeepsAllLevels();
        theSunDriesToZeroAtLeast();
        whatIsMoreThanTheEdgeGoesOn();
        theSunComesAheadOfTheEdges();
        fromFlightToFlightAndOverTheLastEdge();
        theHourIsOneGreater();
        Check.end();
    }

    /** "There are 1 to 8 flights of 1 to 16 steps each, all numbered from 0." */
    private static void oneToEightFlightsOfOneToSixteenSteps() {
        for (int flights = 1; flights <= 8; flights++) {
            for (int steps = 1; steps <= 16; steps++) {
                oneLayout(flights, steps);
            }
        }
        PuddleStairs stairs = new PuddleStairs();
        Check.noArgument(stairs, "lay(0, 16)", () -> stairs.lay(0, 16));
        Check.noArgument(stairs, "lay(9, 16)", () -> stairs.lay(9, 16));
        Check.noArgument(stairs, "lay(8, 0)", () -> stairs.lay(8, 0));
        Check.noArgument(stairs, "lay(8, 17)", () -> stairs.lay(8, 17));
    }

    private static void oneLayout(int flights, int steps) {
        String what = flights + " x " + steps + ": ";
        PuddleStairs stairs = new PuddleStairs();
        Check.due(what + "lay", stairs.lay(flights, steps), flights * steps);
        Check.due(what + "flights()", stairs.flights(), flights);
        Check.due(what + "steps()", stairs.steps(), steps);
        Check.due(what + "the last edge", stairs.edgeOf(steps - 1), 50);
        Check.due(what + "rain on the first", stairs.rain(0, 0, 3), 3);
        Check.due(what + "rain on the last", stairs.rain(flights - 1, steps - 1, 4), flights * steps == 1 ? 7 : 4);
        Check.due(what + "total()", stairs.total(), 7);
        Check.due(what + "dry()", stairs.dry(), Math.max(0, flights * steps - 2));
        Check.noIndex(stairs, what + "a flight too many", () -> stairs.levelAt(flights, 0));
        Check.noIndex(stairs, what + "a step too many", () -> stairs.levelAt(0, steps));
        Check.noIndex(stairs, what + "a flight below 0", () -> stairs.levelAt(-1, steps - 1));
        Check.noIndex(stairs, what + "a step below 0", () -> stairs.levelAt(flights - 1, -1));
    }

    /** "(4, at first) .. (8, at first)" */
    private static void fourFlightsOfEightStepsAtFirst() {
        PuddleStairs stairs = new PuddleStairs();
        Check.due("flights() at first", stairs.flights(), 4);
        Check.due("steps() at first", stairs.steps(), 8);
        Check.due("levelAt(3, 7) at first", stairs.levelAt(3, 7), 0);
        Check.noIndex(stairs, "levelAt(4, 7) at first", () -> stairs.levelAt(4, 7));
        Check.noIndex(stairs, "levelAt(3, 8) at first", () -> stairs.levelAt(3, 8));
    }

    /** "a level (0, at first), which can be less than 0" */
    private static void aLevelCanBeLessThanZero() {
        PuddleStairs stairs = new PuddleStairs();
        Check.due("a level at first", stairs.levelAt(2, 5), 0);
        Check.due("a level below 0", stairs.rain(2, 5, -1), -1);
        stairs.splash(2, 5, 2, 5, -99);
        Check.due("a level far below 0", stairs.levelAt(2, 5), -100);
        stairs.passHours(40);
        Check.due("the sun leaves what is below 0", stairs.levelAt(2, 5), -100);
    }

    /** "A puddle is dry, if its level is 0 or less, otherwise wet." */
    private static void dryIsZeroOrLessOtherwiseWet() {
        PuddleStairs stairs = Check.laid(new int[][] {{1, -1, 0}, {1, 1, 0}, {-1, 1, 1}, {1, 1, 1}});
        Check.due("dry()", stairs.dry(), 4);
        Check.due("dryIn of 1", stairs.dryIn(0, 0, 0, 0), 0);
        Check.due("dryIn of -1", stairs.dryIn(0, 1, 0, 1), 1);
        Check.due("dryIn of 0", stairs.dryIn(0, 2, 0, 2), 1);
        Check.due("dryAt(0)", stairs.dryAt(0), 1);
        Check.due("dryAt(1)", stairs.dryAt(1), 2);
        Check.due("longestDry(0)", stairs.longestDry(0), 2);
        Check.due("longestDry(1)", stairs.longestDry(1), 1);
        Check.due("longestDry(3)", stairs.longestDry(3), 0);
        Check.due("driestFlight()", stairs.driestFlight(), 0);
        Check.due("bail takes from wet ones alone", stairs.bail(0, 999), 1);
        Check.levelsDue("bail takes from wet ones alone", stairs, new int[][] {{0, -1, 0}, {1, 1, 0}, {-1, 1, 1}, {1, 1, 1}});
        Check.due("hoursUntilDry() with wet ones", stairs.hoursUntilDry(), 1);
        Check.due("sunWanted(1) with wet ones", stairs.sunWanted(1), 1);
        PuddleStairs dry = Check.laid(new int[][] {{0, -1}});
        Check.due("hoursUntilDry() of 0 and less", dry.hoursUntilDry(), 0);
        Check.due("sunWanted(1) of 0 and less", dry.sunWanted(1), 0);
    }

    /** "The number of a puddle: its flight times how many steps a flight has, and its step, added." */
    private static void theNumberOfAPuddle() {
        PuddleStairs stairs = new PuddleStairs();
        stairs.lay(3, 5);
        stairs.splash(0, 0, 2, 4, 1);
        for (int flight = 0; flight < 3; flight++) {
            for (int step = 0; step < 5; step++) {
                stairs.rain(flight, step, -1);
                Check.due("the number of " + flight + ", " + step, stairs.dryAt(0), flight * 5 + step);
                stairs.rain(flight, step, 1);
            }
        }
    }

    /** "all puddles of some flights one behind the other, in each of them of the same steps one behind the other" */
    private static void aPartEndsAtItsFlightsAndSteps() {
        for (int from = 0; from < 12; from++) {
            for (int to = from; to < 12; to++) {
                if (from % 4 <= to % 4) {
                    onePart(from / 4, from % 4, to / 4, to % 4);
                }
            }
        }
    }

    private static void onePart(int fromFlight, int fromStep, int toFlight, int toStep) {
        String what = "the part " + fromFlight + ", " + fromStep + " to " + toFlight + ", " + toStep + ": ";
        int size = (toFlight - fromFlight + 1) * (toStep - fromStep + 1);
        PuddleStairs stairs = new PuddleStairs();
        stairs.lay(3, 4);
        stairs.splash(0, 0, 2, 3, -9);
        Check.due(what + "splash", stairs.splash(fromFlight, fromStep, toFlight, toStep, 10), size);
        int[][] want = new int[3][4];
        for (int flight = 0; flight < 3; flight++) {
            for (int step = 0; step < 4; step++) {
                boolean inside = flight >= fromFlight && flight <= toFlight && step >= fromStep && step <= toStep;
                want[flight][step] = inside ? 1 : -9;
            }
        }
        Check.levelsDue(what + "splash", stairs, want);
        Check.due(what + "sumOf", stairs.sumOf(fromFlight, fromStep, toFlight, toStep), size);
        Check.due(what + "dryIn", stairs.dryIn(fromFlight, fromStep, toFlight, toStep), 0);
        Check.due(what + "lowestIn", stairs.lowestIn(fromFlight, fromStep, toFlight, toStep), 1);
        Check.due(what + "sumTo", stairs.sumTo(toFlight, toStep), 10L * size - 9L * (toFlight + 1) * (toStep + 1));
        lastOnesOfAPart(what, stairs, fromFlight, fromStep, toFlight, toStep);
    }

    /** What lies in the corners of the part alone is seen. */
    private static void lastOnesOfAPart(String what, PuddleStairs stairs, int fromFlight, int fromStep, int toFlight, int toStep) {
        stairs.rain(toFlight, toStep, -3);
        Check.due(what + "lowestIn, the last one", stairs.lowestIn(fromFlight, fromStep, toFlight, toStep), -2);
        Check.due(what + "dryIn, the last one", stairs.dryIn(fromFlight, fromStep, toFlight, toStep), 1);
        stairs.rain(fromFlight, fromStep, -4);
        boolean single = fromFlight == toFlight && fromStep == toStep;
        Check.due(what + "lowestIn, the first one", stairs.lowestIn(fromFlight, fromStep, toFlight, toStep), single ? -6 : -3);
        Check.due(what + "dryIn, the first one", stairs.dryIn(fromFlight, fromStep, toFlight, toStep), single ? 1 : 2);
    }

    /** "how much it dries in an hour, 0 to 9 (1, at first)" */
    private static void theSunIsZeroToNine() {
        PuddleStairs stairs = new PuddleStairs();
        Check.due("sun() at first", stairs.sun(), 1);
        for (int sun = 0; sun <= 9; sun++) {
            stairs.setSun(sun);
            Check.due("sun() " + sun, stairs.sun(), sun);
        }
        Check.noArgument(stairs, "setSun(-1)", () -> stairs.setSun(-1));
        Check.noArgument(stairs, "setSun(10)", () -> stairs.setSun(10));
        Check.due("sun() behind refused ones", stairs.sun(), 9);
    }

    /** "each step has one, 0 to 999 (50, at first)" */
    private static void edgesAreZeroTo999() {
        PuddleStairs stairs = new PuddleStairs();
        stairs.lay(1, 2);
        stairs.setSun(0);
        for (int time = 0; time < 11; time++) {
            stairs.rain(0, 0, 99);
        }
        Check.due("an edge of 50: goneIn(1)", stairs.goneIn(1), 1089 - 100);
        stairs.setEdge(0, 999);
        Check.due("an edge of 999: goneIn(1)", stairs.goneIn(1), 1089 - 999 - 50);
        stairs.setEdge(1, 999);
        Check.due("two edges of 999: goneIn(1)", stairs.goneIn(1), 0);
        stairs.setEdge(0, 0);
        stairs.setEdge(1, 0);
        Check.due("edges of 0: goneIn(1)", stairs.goneIn(1), 1089);
        Check.noArgument(stairs, "setEdge(1, -1)", () -> stairs.setEdge(1, -1));
        Check.noArgument(stairs, "setEdge(1, 1000)", () -> stairs.setEdge(1, 1000));
    }

    /** "the same one in all flights" */
    private static void anEdgeIsTheSameInAllFlights() {
        PuddleStairs stairs = new PuddleStairs();
        stairs.lay(8, 2);
        stairs.setSun(0);
        stairs.setEdge(0, 11);
        stairs.setEdge(1, 30);
        stairs.splash(0, 0, 7, 0, 12);
        stairs.passHours(1);
        for (int flight = 0; flight < 8; flight++) {
            Check.due("step 0 of flight " + flight, stairs.levelAt(flight, 0), 11);
            Check.due("step 1 of flight " + flight, stairs.levelAt(flight, 1), 1);
        }
    }

    /** "The latest deeds are kept, 30 at most; if there are more, the oldest one is forgotten." */
    private static void thirtyDeedsAreKeptAndTheOldestIsForgotten() {
        for (int deeds : new int[] {0, 1, 2, 28, 29, 30, 31, 32, 59, 60, 61, 89, 90, 91, 150}) {
            PuddleStairs stairs = new PuddleStairs();
            for (int deed = 0; deed < deeds; deed++) {
                stairs.rain(0, 0, 1);
            }
            int kept = Math.min(deeds, 30);
            Check.due("deeds() behind " + deeds, stairs.deeds(), kept);
            for (int undone = 1; undone <= kept; undone++) {
                stairs.undo();
                Check.due("the level behind " + deeds + " deeds and " + undone + " undone", stairs.levelAt(0, 0), deeds - undone);
                Check.due("deeds() behind " + deeds + " deeds and " + undone + " undone", stairs.deeds(), kept - undone);
            }
            Check.noState(stairs, "undo() of none behind " + deeds + " deeds", stairs::undo);
        }
    }

    /** "Deeds are rain(), splash(), swap(), turn(), bail(), passHours() and back()." */
    private static void eachKindOfDeedForgetsTheOldestOne() {
        String[] names = {"rain", "splash", "swap", "turn", "bail", "passHours", "back"};
        int[][] arguments = {{1, 1, 0}, {0, 0, 1, 1, 0}, {1, 1}, {0}, {1, 1}, {1}, {0}};
        for (int kind = 0; kind < names.length; kind++) {
            PuddleStairs stairs = Check.laid(new int[][] {{1, 2}, {-3, -4}});
            stairs.mark();
            for (int deed = 5; deed <= 30; deed++) {
                stairs.rain(0, 0, 1);
            }
            Check.due("deeds() ahead of " + names[kind], stairs.deeds(), 30);
            Calls.answer(stairs, names[kind], arguments[kind]);
            Check.due("deeds() behind " + names[kind], stairs.deeds(), 30);
            stairs.undo();
            Check.levelsDue("undone " + names[kind], stairs, new int[][] {{27, 2}, {-3, -4}});
            for (int undone = 2; undone <= 30; undone++) {
                stairs.undo();
            }
            Check.levelsDue("the oldest one kept behind " + names[kind], stairs, new int[][] {{1, 0}, {0, 0}});
            Check.noState(stairs, "undo() of the one forgotten for " + names[kind], stairs::undo);
        }
    }

    private static void whatIsNoDeedForgetsNone() {
        PuddleStairs stairs = new PuddleStairs();
        for (int deed = 0; deed < 30; deed++) {
            stairs.rain(0, 0, 1);
        }
        stairs.mark();
        stairs.setSun(2);
        stairs.setEdge(0, 70);
        stairs.totalIn(40);
        stairs.goneIn(40);
        stairs.hoursUntilDry();
        stairs.sunWanted(40);
        stairs.bestEdge(0, 40);
        stairs.bestSwap(0);
        stairs.changedSince(0);
        stairs.digest();
        Check.due("deeds() behind what is none", stairs.deeds(), 30);
        for (int undone = 0; undone < 30; undone++) {
            stairs.undo();
        }
        Check.due("the level ahead of the first deed", stairs.levelAt(0, 0), 0);
    }

    /** "the latest deed that is kept, which is not kept then" */
    private static void aDeedBehindUndoingFromAFullStore() {
        PuddleStairs stairs = new PuddleStairs();
        for (int deed = 0; deed < 45; deed++) {
            stairs.rain(0, 0, 1);
        }
        stairs.undo();
        Check.due("deeds() behind one undone", stairs.deeds(), 29);
        stairs.rain(0, 1, 1);
        Check.due("deeds(), full again", stairs.deeds(), 30);
        Check.due("undo() of the new one", stairs.undo(), 1);
        Check.due("level of the new one", stairs.levelAt(0, 1), 0);
        Check.due("level of the others", stairs.levelAt(0, 0), 44);
        for (int undone = 0; undone < 29; undone++) {
            stairs.undo();
        }
        Check.due("level of the others, all undone", stairs.levelAt(0, 0), 15);
        Check.due("deeds(), all undone", stairs.deeds(), 0);
        stairs.rain(0, 0, 9);
        Check.due("deeds() behind a deed again", stairs.deeds(), 1);
        stairs.undo();
        Check.due("level behind a deed again, undone", stairs.levelAt(0, 0), 15);
    }

    /** "hours, and what is gone, stay" */
    private static void hoursAndWhatIsGoneStayBehindUndo() {
        PuddleStairs stairs = Check.laid(new int[][] {{99}});
        stairs.passHours(40);
        stairs.undo();
        Check.due("level behind undo", stairs.levelAt(0, 0), 99);
        Check.due("hours() behind undo", stairs.hours(), 40);
        Check.due("gone() behind undo", stairs.gone(), 48);
        stairs.passHours(1);
        stairs.undo();
        Check.due("hours() behind undo again", stairs.hours(), 41);
        Check.due("gone() behind undo again", stairs.gone(), 96);
    }

    /** "Marks. At most 12, numbered from 0" */
    private static void atMostTwelveMarks() {
        PuddleStairs stairs = new PuddleStairs();
        for (int mark = 0; mark < 12; mark++) {
            int next = mark;
            Check.due("marks() ahead of mark " + mark, stairs.marks(), mark);
            Check.noIndex(stairs, "back(" + mark + ") ahead of it", () -> stairs.back(next));
            Check.noIndex(stairs, "changedSince(" + mark + ") ahead of it", () -> stairs.changedSince(next));
            Check.due("mark() " + mark, stairs.mark(), mark);
            Check.due("changedSince(" + mark + ")", stairs.changedSince(mark), 0);
        }
        Check.noState(stairs, "the 13th mark()", stairs::mark);
        Check.noState(stairs, "the 14th mark()", stairs::mark);
        Check.due("marks() behind refused ones", stairs.marks(), 12);
        Check.due("back(11)", stairs.back(11), 0);
        Check.noIndex(stairs, "back(12)", () -> stairs.back(12));
        Check.noIndex(stairs, "changedSince(12)", () -> stairs.changedSince(12));
    }

    /** "each keeps all levels as they were" */
    private static void eachMarkKeepsAllLevels() {
        PuddleStairs stairs = new PuddleStairs();
        stairs.lay(2, 2);
        for (int mark = 0; mark < 12; mark++) {
            stairs.mark();
            stairs.splash(0, 0, 1, 1, 1);
            stairs.rain(1, 1, 1);
        }
        Check.noState(stairs, "the 13th mark()", stairs::mark);
        stairs.undo();
        stairs.undo();
        for (int mark : new int[] {11, 0, 5, 5, 1, 10}) {
            stairs.back(mark);
            Check.levelsDue("back(" + mark + ")", stairs, new int[][] {{mark, mark}, {mark, 2 * mark}});
            stairs.splash(0, 0, 1, 1, -50);
            Check.due("changedSince(" + mark + ")", stairs.changedSince(mark), 4);
        }
    }

    /** "Each wet puddle has as much less as the sun dries, at least 0." */
    private static void theSunDriesToZeroAtLeast() {
        for (int sun = 0; sun <= 9; sun++) {
            for (int level = -2; level <= 11; level++) {
                PuddleStairs stairs = Check.laid(new int[][] {{level}});
                stairs.setSun(sun);
                stairs.passHours(1);
                int want = level <= 0 ? level : Math.max(0, level - sun);
                Check.due("a level of " + level + " behind an hour of sun " + sun, stairs.levelAt(0, 0), want);
            }
        }
    }

    /** "what a puddle has more than the edge of its step goes to the next one in the order" */
    private static void whatIsMoreThanTheEdgeGoesOn() {
        for (int edge : new int[] {0, 1, 50, 300, 998, 999}) {
            for (int more = -1; more <= 2; more++) {
                PuddleStairs stairs = new PuddleStairs();
                stairs.lay(1, 2);
                stairs.setSun(0);
                stairs.setEdge(0, edge);
                raise(stairs, edge + more);
                String what = "a level of " + (edge + more) + " at an edge of " + edge;
                Check.due(what + ": passHours(1)", stairs.passHours(1), 0);
                Check.levelsDue(what, stairs, new int[][] {{Math.min(edge, edge + more), Math.max(0, more)}});
                stairs.setEdge(1, 0);
                Check.due(what + ": passHours(1) again", stairs.passHours(1), Math.max(0, more));
            }
        }
        PuddleStairs low = Check.laid(new int[][] {{9, -20, 9}});
        low.setSun(0);
        low.setEdge(0, 0);
        low.setEdge(1, 0);
        low.passHours(1);
        Check.levelsDue("what goes to a level below 0", low, new int[][] {{0, -11, 9}});
    }

    private static void raise(PuddleStairs stairs, int level) {
        int left = level;
        while (left != 0) {
            int drops = Math.max(-99, Math.min(99, left));
            stairs.rain(0, 0, drops);
            left -= drops;
        }
    }

    private static void theSunComesAheadOfTheEdges() {
        for (int more = 0; more <= 1; more++) {
            PuddleStairs stairs = Check.laid(new int[][] {{29 + more}});
            stairs.setSun(9);
            stairs.setEdge(0, 20);
            Check.due("sun 9, edge 20, level " + (29 + more), stairs.passHours(1), more);
            Check.due("the level then", stairs.levelAt(0, 0), 20);
        }
        PuddleStairs fresh = Check.laid(new int[][] {{60, 0}});
        fresh.passHours(1);
        Check.levelsDue("what just came is not dried in the same hour", fresh, new int[][] {{50, 9}});
    }

    /** "In the order of puddles .. from the last one it is gone." */
    private static void fromFlightToFlightAndOverTheLastEdge() {
        PuddleStairs stairs = new PuddleStairs();
        stairs.lay(8, 1);
        stairs.setSun(0);
        stairs.setEdge(0, 3);
        stairs.rain(0, 0, 99);
        Check.due("down all flights in one hour", stairs.passHours(1), 99 - 24);
        Check.levelsDue("down all flights in one hour", stairs, new int[][] {{3}, {3}, {3}, {3}, {3}, {3}, {3}, {3}});
        PuddleStairs last = Check.laid(new int[][] {{0, 0}, {0, 60}});
        last.setSun(0);
        Check.due("from the last one", last.passHours(1), 10);
        Check.levelsDue("from the last one", last, new int[][] {{0, 0}, {0, 50}});
        Check.due("gone() from the last one", last.gone(), 10);
        PuddleStairs onward = Check.laid(new int[][] {{0, 60}, {0, 0}});
        onward.setSun(0);
        Check.due("from the last one of a flight", onward.passHours(1), 0);
        Check.levelsDue("from the last one of a flight", onward, new int[][] {{0, 50}, {10, 0}});
    }

    /** "The hour is 1 greater." */
    private static void theHourIsOneGreater() {
        PuddleStairs stairs = new PuddleStairs();
        Check.due("hours() at first", stairs.hours(), 0);
        stairs.passHours(1);
        Check.due("hours() behind one", stairs.hours(), 1);
        stairs.passHours(40);
        Check.due("hours() behind 40 more", stairs.hours(), 41);
        Check.noArgument(stairs, "passHours(41)", () -> stairs.passHours(41));
        Check.due("hours() behind a refused call", stairs.hours(), 41);
    }
}
