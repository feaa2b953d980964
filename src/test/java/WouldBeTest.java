/** Promises 42 to 49: what would be, the mean level, the digest. */
final class WouldBeTest {
    private WouldBeTest() {
    }

    public static void main(String[] args) {
        promise42TotalIn();
        promise43GoneIn();
        promises42To47ChangeNothing();
        promise44HoursUntilDry();
        promise45SunWanted();
        promise46BestEdge();
        promise47BestSwap();
        promise48MeanLevel();
        promise49Digest();
        promise49DigestOfMarks();
        Check.end();
    }

    private static void promise42TotalIn() {
        PuddleStairs stairs = Check.laid(new int[][] {{90, 3, -7}, {0, 1, 60}});
        Check.due("totalIn(1)", stairs.totalIn(1), 90 + 3 - 7 + 1 + 60 - 4 - 9);
        Check.due("totalIn(2)", stairs.totalIn(2), 134 - 3);
        stairs.setSun(0);
        Check.due("totalIn(40) without sun", stairs.totalIn(40), 147 - 10);
        Check.noArgument(stairs, "totalIn(0)", () -> stairs.totalIn(0));
        Check.noArgument(stairs, "totalIn(41)", () -> stairs.totalIn(41));
    }

    private static void promise43GoneIn() {
        PuddleStairs stairs = Check.laid(new int[][] {{40, 45}});
        stairs.setSun(0);
        stairs.setEdge(1, 20);
        Check.due("goneIn(1)", stairs.goneIn(1), 25);
        Check.due("goneIn(40)", stairs.goneIn(40), 25);
        stairs.setEdge(0, 0);
        Check.due("goneIn(1) over an edge of 0", stairs.goneIn(1), 65);
        Check.noArgument(stairs, "goneIn(0)", () -> stairs.goneIn(0));
        Check.noArgument(stairs, "goneIn(41)", () -> stairs.goneIn(41));
    }

    private static void promises42To47ChangeNothing() {
        PuddleStairs stairs = Check.laid(new int[][] {{90, 3, -7}, {0, 1, 60}});
        stairs.mark();
        stairs.setEdge(2, 7);
        long before = stairs.digest();
        stairs.totalIn(40);
        stairs.goneIn(40);
        stairs.hoursUntilDry();
        stairs.sunWanted(40);
        stairs.bestEdge(1, 40);
        stairs.bestSwap(0);
        Check.due("digest() behind what would be", stairs.digest(), before);
        Check.due("deeds() behind what would be", stairs.deeds(), 6);
        Check.levelsDue("behind what would be", stairs, new int[][] {{90, 3, -7}, {0, 1, 60}});
    }

    private static void promise44HoursUntilDry() {
        PuddleStairs stairs = Check.laid(new int[][] {{0, -5}});
        Check.due("hoursUntilDry() of dry ones", stairs.hoursUntilDry(), 0);
        stairs.rain(0, 0, 1);
        Check.due("hoursUntilDry() of 1", stairs.hoursUntilDry(), 1);
        stairs.setEdge(0, 99);
        stairs.rain(0, 0, 59);
        Check.due("hoursUntilDry() of 60", stairs.hoursUntilDry(), 60);
        stairs.rain(0, 0, 1);
        Check.due("hoursUntilDry() of 61", stairs.hoursUntilDry(), -1);
        stairs.setSun(0);
        Check.due("hoursUntilDry() without sun", stairs.hoursUntilDry(), -1);
        stairs.setEdge(0, 0);
        stairs.setEdge(1, 0);
        Check.due("hoursUntilDry() over edges of 0", stairs.hoursUntilDry(), 1);
    }

    private static void promise45SunWanted() {
        PuddleStairs stairs = Check.laid(new int[][] {{0, 30}});
        Check.due("sunWanted(3) of 30", stairs.sunWanted(3), -1);
        Check.due("sunWanted(4) of 30", stairs.sunWanted(4), 8);
        Check.due("sunWanted(30) of 30", stairs.sunWanted(30), 1);
        Check.due("sunWanted(29) of 30", stairs.sunWanted(29), 2);
        stairs.rain(0, 1, -3);
        Check.due("sunWanted(3) of 27", stairs.sunWanted(3), 9);
        Check.due("sunWanted(40) of dry ones", new PuddleStairs().sunWanted(40), 0);
        stairs.setEdge(0, 0);
        stairs.setEdge(1, 0);
        Check.due("sunWanted(1) over edges of 0", stairs.sunWanted(1), 0);
        Check.noArgument(stairs, "sunWanted(0)", () -> stairs.sunWanted(0));
        Check.noArgument(stairs, "sunWanted(41)", () -> stairs.sunWanted(41));
    }

    private static void promise46BestEdge() {
        PuddleStairs stairs = Check.laid(new int[][] {{99, 99}, {99, 99}});
        stairs.setSun(0);
        Check.due("bestEdge(0, 1)", stairs.bestEdge(0, 1), 150);
        Check.due("bestEdge(1, 1)", stairs.bestEdge(1, 1), 150);
        stairs.setEdge(0, 0);
        stairs.setEdge(1, 0);
        Check.due("bestEdge(1, 40) where all runs down", stairs.bestEdge(1, 40), 200);
        stairs.splash(0, 0, 1, 1, 99);
        Check.due("bestEdge(1, 40) of still more", stairs.bestEdge(1, 40), 300);
        Check.due("bestEdge(0, 1) of dry ones", new PuddleStairs().bestEdge(0, 1), 0);
        Check.noIndex(stairs, "bestEdge(-1, 1)", () -> stairs.bestEdge(-1, 1));
        Check.noIndex(stairs, "bestEdge(2, 1)", () -> stairs.bestEdge(2, 1));
        Check.noIndex(stairs, "bestEdge(2, 0)", () -> stairs.bestEdge(2, 0));
        Check.noArgument(stairs, "bestEdge(0, 0)", () -> stairs.bestEdge(0, 0));
        Check.noArgument(stairs, "bestEdge(0, 41)", () -> stairs.bestEdge(0, 41));
    }

    private static void promise47BestSwap() {
        PuddleStairs stairs = Check.laid(new int[][] {{5, 6}, {3, 4}, {1, 2}});
        Check.due("bestSwap(0)", stairs.bestSwap(0), 2);
        Check.due("bestSwap(1)", stairs.bestSwap(1), 0);
        Check.due("bestSwap(2)", stairs.bestSwap(2), 0);
        stairs.swap(0, 2);
        Check.due("bestSwap(0) in order", stairs.bestSwap(0), 0);
        Check.due("bestSwap(2) in order", stairs.bestSwap(2), 2);
        Check.due("bestSwap(3) of equal ones", new PuddleStairs().bestSwap(3), 0);
        Check.noIndex(stairs, "bestSwap(-1)", () -> stairs.bestSwap(-1));
        Check.noIndex(stairs, "bestSwap(3)", () -> stairs.bestSwap(3));
    }

    private static void promise48MeanLevel() {
        Check.dueDouble("meanLevel() of a new object", new PuddleStairs().meanLevel(), 0.0);
        Check.dueDouble("meanLevel()", Check.laid(new int[][] {{1, 2}, {3, 5}}).meanLevel(), 2.75);
        Check.dueDouble("meanLevel() of three", Check.laid(new int[][] {{1, 0, 0}}).meanLevel(), 1.0 / 3.0);
        Check.dueDouble("meanLevel() of one", Check.laid(new int[][] {{7}}).meanLevel(), 7.0);
        Check.dueDouble("meanLevel() below 0", Check.laid(new int[][] {{-1, -4}}).meanLevel(), -2.5);
        Check.dueDouble("meanLevel() of 1 and -1", Check.laid(new int[][] {{1, -1}}).meanLevel(), 0.0);
    }

    private static void promise49Digest() {
        PuddleStairs stairs = Check.laid(new int[][] {{9, -2}, {60, 4}});
        stairs.setEdge(1, 8);
        stairs.passHours(1);
        Check.levelsDue("ahead of digest()", stairs, new int[][] {{8, -2}, {50, 8}});
        long[] numbers = {
            2, 2, 1, 1, 0, 5, 4, 64, 1, 0, 2, 50, 55, 0, -1,
            6, 8, 1, 0, 0, 8, -2, 58, 58, 0, 0, 1, 50, 8, 50, 58, 8, 6,
        };
        long want = 2281;
        for (long number : numbers) {
            want = want * 31 + number;
        }
        Check.due("digest()", stairs.digest(), want);
    }

    private static void promise49DigestOfMarks() {
        PuddleStairs stairs = new PuddleStairs();
        stairs.mark();
        stairs.rain(3, 7, 1);
        stairs.undo();
        stairs.mark();
        long same = stairs.digest();
        stairs.rain(3, 7, 1);
        stairs.back(0);
        stairs.undo();
        stairs.undo();
        Check.due("digest() as it was", stairs.digest(), same);
        PuddleStairs other = new PuddleStairs();
        other.rain(3, 7, 1);
        other.mark();
        other.undo();
        other.mark();
        Check.due("digest() ends with changedSince of each mark", other.digest() - same, 31);
    }
}
