import java.util.Arrays;

/** Long runs of calls drawn by a fixed rule: the class answers each as the model does. */
final class ModelTest {
    private static final int RUNS = 150;
    /** One less than an object is promised for: the digest at the end is a call too. */
    private static final int CALLS = 511;
    private static final String[] DEEDS = {
        "rain", "rain", "rain", "rain", "splash", "splash", "splash", "swap", "turn", "bail", "passHours", "passHours",
        "mark", "back", "undo", "undo", "setSun", "setEdge",
    };
    private static final String[] QUESTIONS = {
        "flights", "steps", "hours", "sun", "edgeOf", "marks", "deeds", "gone", "levelAt", "sumOf", "sumTo",
        "flightSum", "stepSum", "total", "firstReaching", "bestRun", "dryIn", "dry", "dryAt", "longestDry",
        "driestFlight", "lowestIn", "highestAt", "upTo", "levelInOrder", "outOfOrder", "alike", "changedSince",
        "totalIn", "goneIn", "hoursUntilDry", "sunWanted", "bestEdge", "bestSwap", "meanLevel", "digest",
    };

    private static long seed;

    private ModelTest() {
    }

    public static void main(String[] args) {
        for (int run = 0; run < RUNS; run++) {
            seed = run * 7919L + 17;
            oneRun(run);
        }
        Check.end();
    }

    private static void oneRun(int run) {
        PuddleStairs stairs = new PuddleStairs();
        Model model = new Model();
        boolean many = run % 3 == 0;
        for (int call = 0; call < CALLS; call++) {
            String name = drawName(call, many);
            int[] x = drawArguments(name, model);
            String what = "run " + run + ", call " + call + ": " + name + Arrays.toString(x);
            Check.dueText(what, Calls.answer(stairs, name, x), Calls.answer(model, name, x));
        }
        Check.due("run " + run + ": digest()", stairs.digest(), model.digest());
    }

    private static String drawName(int call, boolean many) {
        if (call == 0 || below(200) == 0) {
            return "lay";
        }
        if (many ? below(5) != 0 : below(2) != 0) {
            return DEEDS[below(DEEDS.length)];
        }
        return QUESTIONS[below(QUESTIONS.length)];
    }

    /** Mostly numbers that fit, sometimes ones that do not. */
    private static int[] drawArguments(String name, Model model) {
        int f = number(0, model.flights() - 1);
        int s = number(0, model.steps() - 1);
        int f2 = below(3) == 0 ? number(0, model.flights() - 1) : number(f, model.flights() - 1);
        int s2 = below(3) == 0 ? number(0, model.steps() - 1) : number(s, model.steps() - 1);
        switch (name) {
            case "lay": return new int[] {number(1, 8), number(1, 16)};
            case "rain": return new int[] {f, s, number(-99, 99)};
            case "splash": return new int[] {f, s, f2, s2, number(-99, 99)};
            case "bail": return new int[] {f, below(2) == 0 ? number(1, 99) : number(1, 999)};
            case "setSun": return new int[] {number(0, 9)};
            case "setEdge": return new int[] {s, below(2) == 0 ? number(0, 99) : number(0, 999)};
            case "back": case "changedSince": return new int[] {number(0, model.marks() - 1)};
            case "firstReaching": return new int[] {f, number(-300, 300)};
            case "dryAt": return new int[] {number(0, model.dry() - 1)};
            case "levelInOrder": return new int[] {number(0, model.flights() * model.steps() - 1)};
            case "upTo": return new int[] {number(-100, 100)};
            case "swap": case "alike": return new int[] {f, number(0, model.flights() - 1)};
            case "turn": case "flightSum": case "bestRun": case "longestDry": case "highestAt": case "bestSwap": return new int[] {f};
            case "edgeOf": case "stepSum": return new int[] {s};
            case "bestEdge": return new int[] {s, number(1, 40)};
            case "passHours": return new int[] {below(2) == 0 ? number(1, 4) : number(1, 40)};
            case "totalIn": case "goneIn": case "sunWanted": return new int[] {number(1, 40)};
            case "levelAt": case "sumTo": return new int[] {f, s};
            case "sumOf": case "dryIn": case "lowestIn": return new int[] {f, s, f2, s2};
            default: return new int[0];
        }
    }

    private static int below(int bound) {
        seed = seed * 6364136223846793005L + 1442695040888963407L;
        return (int) Long.remainderUnsigned(seed >>> 33, bound);
    }

    /** A number from least to most, or at times one of the bounds, or one past them. */
    private static int number(int least, int most) {
        switch (below(40)) {
            case 0: return least - 1;
            case 1: return most + 1;
            case 2: case 3: return least;
            case 4: case 5: return most;
            case 6: return below(8) == 0 ? Integer.MIN_VALUE : least;
            case 7: return below(8) == 0 ? Integer.MAX_VALUE : most;
            default: return most < least ? least : least + below(most - least + 1);
        }
    }
}
