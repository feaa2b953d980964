/** Counts the answers that are not the ones that are due, and prints each of them. */
final class Check {
    private static int asked = 0;
    private static int wrong = 0;

    private Check() {
    }

    static void due(String what, long got, long want) {
        asked++;
        if (got != want) {
            tell(what + " answered " + got + ", due is " + want);
        }
    }

    static void dueDouble(String what, double got, double want) {
        asked++;
        if (Double.compare(got, want) != 0) {
            tell(what + " answered " + got + ", due is " + want);
        }
    }

    static void dueText(String what, String got, String want) {
        asked++;
        if (!got.equals(want)) {
            tell(what + " answered " + got + ", due is " + want);
        }
    }

    /** The call throws just this class, and the staircase is afterwards as it was. */
    static void refused(PuddleStairs stairs, String what, Class<? extends RuntimeException> want, Runnable call) {
        long before = stairs.digest();
        String got = "nothing";
        try {
            call.run();
        } catch (RuntimeException e) {
            got = e.getClass().getSimpleName();
        }
        dueText(what + " throws", got, want.getSimpleName());
        due("digest() behind the refused " + what, stairs.digest(), before);
    }

    static void noIndex(PuddleStairs stairs, String what, Runnable call) {
        refused(stairs, what, IndexOutOfBoundsException.class, call);
    }

    static void noArgument(PuddleStairs stairs, String what, Runnable call) {
        refused(stairs, what, IllegalArgumentException.class, call);
    }

    static void noState(PuddleStairs stairs, String what, Runnable call) {
        refused(stairs, what, IllegalStateException.class, call);
    }

    /** A staircase with these levels, flight by flight. */
    static PuddleStairs laid(int[][] levels) {
        PuddleStairs stairs = new PuddleStairs();
        stairs.lay(levels.length, levels[0].length);
        for (int flight = 0; flight < levels.length; flight++) {
            for (int step = 0; step < levels[flight].length; step++) {
                stairs.rain(flight, step, levels[flight][step]);
            }
        }
        return stairs;
    }

    static void levelsDue(String what, PuddleStairs stairs, int[][] want) {
        due(what + ": flights()", stairs.flights(), want.length);
        due(what + ": steps()", stairs.steps(), want[0].length);
        for (int flight = 0; flight < want.length; flight++) {
            for (int step = 0; step < want[flight].length; step++) {
                due(what + ": levelAt(" + flight + ", " + step + ")", stairs.levelAt(flight, step), want[flight][step]);
            }
        }
    }

    static void end() {
        System.out.println(asked + " answers asked, " + wrong + " not as due");
        if (wrong != 0 || asked == 0) {
            System.exit(1);
        }
    }

    private static void tell(String text) {
        wrong++;
        System.out.println(text);
    }
}
