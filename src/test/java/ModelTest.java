/** Long runs of calls drawn by a fixed rule: the class answers each as the model does. */
final class ModelTest {
    private static final int RUNS = 150;
    private static final int CALLS = 512;
    private static final String[] DEEDS = {
        "rain", "rain", "rain", "rain", "splash", "splash", "splash", "swap", "turn", "bail", "passHours", "passHours",
        "mark", "back", "undo", "undo", "setSun", "setEdge",
    };
    private static final String[] QUESTIONS = {
        "flights", "steps", "hours", "sun", "edgeOf", "marks", "deeds", "gone", "levelAt", "sumOf", "sumTo",
        "flightSum", "stepSum", "total", "firstReaching", "bestRun", "dryIn", "dry", "dryAt", "longestDry",
        "driestFlight", "lowestIn", "highestAt", "upTo", "levelInOrder", "outOfOrder", "alike", "changedSince",
        "totalIn", "goneIn", "hoursUntilDry", "sunWanted", "bestEdge", "bestSwap", "meanLevel", "digest",
    };

    private static long seed;

    private ModelTest() {
    }

    public static void main(String[] args) {
        for (int run = 0; run < RUNS; run++) {
            seed = run * 7919L + 17;
            oneRun(run);
        }
        Check.end();
    }

    private static void oneRun(int run) {
        PuddleStairs stairs = new PuddleStairs();
        Model model = new Model();
        boolean many = run % 3 == 0;
        for (int call = 0; call < CALLS; call++) {
            String name = drawName(call, many);
            int[] x = drawArguments(name, model);
            String what = "run " + run + ", call " + call + ": " + name + java.util.Arrays.toString(x);
            Check.dueText(what, answer(() -> askStairs(stairs, name, x)), answer(() -> askModel(model, name, x)));
        }
        Check.due("run " + run + ": digest()", stairs.digest(), model.digest());
    }

    private static String drawName(int call, boolean many) {
        if (call == 0 || below(200) == 0) {
            return "lay";
        }
        if (many ? below(5) != 0 : below(2) != 0) {
            return DEEDS[below(DEEDS.length)];
        }
        return QUESTIONS[below(QUESTIONS.length)];
    }

    /** Mostly numbers that fit, sometimes ones that do not. */
    private static int[] drawArguments(String name, Model model) {
        int f = number(0, model.flights - 1);
        int s = number(0, model.steps - 1);
        int f2 = below(3) == 0 ? number(0, model.flights - 1) : number(f, model.flights - 1);
        int s2 = below(3) == 0 ? number(0, model.steps - 1) : number(s, model.steps - 1);
        switch (name) {
            case "lay": return new int[] {number(1, 8), number(1, 16)};
            case "rain": return new int[] {f, s, number(-99, 99)};
            case "splash": return new int[] {f, s, f2, s2, number(-99, 99)};
            case "bail": return new int[] {f, below(2) == 0 ? number(1, 99) : number(1, 999)};
            case "setSun": return new int[] {number(0, 9)};
            case "setEdge": return new int[] {s, below(2) == 0 ? number(0, 99) : number(0, 999)};
            case "back": case "changedSince": return new int[] {number(0, model.marks.size() - 1)};
            case "firstReaching": return new int[] {f, number(-300, 300)};
            case "dryAt": return new int[] {number(0, model.dry() - 1)};
            case "levelInOrder": return new int[] {number(0, model.levels.length - 1)};
            case "upTo": return new int[] {number(-100, 100)};
            case "swap": case "alike": return new int[] {f, number(0, model.flights - 1)};
            case "turn": case "flightSum": case "bestRun": case "longestDry": case "highestAt": case "bestSwap": return new int[] {f};
            case "edgeOf": case "stepSum": return new int[] {s};
            case "bestEdge": return new int[] {s, number(1, 40)};
            case "passHours": return new int[] {below(2) == 0 ? number(1, 4) : number(1, 40)};
            case "totalIn": case "goneIn": case "sunWanted": return new int[] {number(1, 40)};
            case "levelAt": case "sumTo": return new int[] {f, s};
            case "sumOf": case "dryIn": case "lowestIn": return new int[] {f, s, f2, s2};
            default: return new int[0];
        }
    }

    private static Object askStairs(PuddleStairs p, String name, int[] x) {
        switch (name) {
            case "lay": return p.lay(x[0], x[1]);
            case "rain": return p.rain(x[0], x[1], x[2]);
            case "splash": return p.splash(x[0], x[1], x[2], x[3], x[4]);
            case "swap": return p.swap(x[0], x[1]);
            case "turn": return p.turn(x[0]);
            case "bail": return p.bail(x[0], x[1]);
            case "passHours": return p.passHours(x[0]);
            case "mark": return p.mark();
            case "back": return p.back(x[0]);
            case "undo": return p.undo();
            case "setSun": return p.setSun(x[0]);
            case "setEdge": return p.setEdge(x[0], x[1]);
            case "flights": return p.flights();
            case "steps": return p.steps();
            case "hours": return p.hours();
            case "sun": return p.sun();
            case "edgeOf": return p.edgeOf(x[0]);
            case "marks": return p.marks();
            case "deeds": return p.deeds();
            case "gone": return p.gone();
            case "levelAt": return p.levelAt(x[0], x[1]);
            case "sumOf": return p.sumOf(x[0], x[1], x[2], x[3]);
            case "sumTo": return p.sumTo(x[0], x[1]);
            case "flightSum": return p.flightSum(x[0]);
            case "stepSum": return p.stepSum(x[0]);
            case "total": return p.total();
            case "firstReaching": return p.firstReaching(x[0], x[1]);
            case "bestRun": return p.bestRun(x[0]);
            case "dryIn": return p.dryIn(x[0], x[1], x[2], x[3]);
            case "dry": return p.dry();
            case "dryAt": return p.dryAt(x[0]);
            case "longestDry": return p.longestDry(x[0]);
            case "driestFlight": return p.driestFlight();
            case "lowestIn": return p.lowestIn(x[0], x[1], x[2], x[3]);
            case "highestAt": return p.highestAt(x[0]);
            case "upTo": return p.upTo(x[0]);
            case "levelInOrder": return p.levelInOrder(x[0]);
            case "outOfOrder": return p.outOfOrder();
            case "alike": return p.alike(x[0], x[1]);
            case "changedSince": return p.changedSince(x[0]);
            case "totalIn": return p.totalIn(x[0]);
            case "goneIn": return p.goneIn(x[0]);
            case "hoursUntilDry": return p.hoursUntilDry();
            case "sunWanted": return p.sunWanted(x[0]);
            case "bestEdge": return p.bestEdge(x[0], x[1]);
            case "bestSwap": return p.bestSwap(x[0]);
            case "meanLevel": return p.meanLevel();
            case "digest": return p.digest();
            default: throw new UnsupportedOperationException(name);
        }
    }

    private static Object askModel(Model m, String name, int[] x) {
        switch (name) {
            case "lay": return m.lay(x[0], x[1]);
            case "rain": return m.rain(x[0], x[1], x[2]);
            case "splash": return m.splash(x[0], x[1], x[2], x[3], x[4]);
            case "swap": return m.swap(x[0], x[1]);
            case "turn": return m.turn(x[0]);
            case "bail": return m.bail(x[0], x[1]);
            case "passHours": return m.passHours(x[0]);
            case "mark": return m.mark();
            case "back": return m.back(x[0]);
            case "undo": return m.undo();
            case "setSun": return m.setSun(x[0]);
            case "setEdge": return m.setEdge(x[0], x[1]);
            case "flights": return m.flights;
            case "steps": return m.steps;
            case "hours": return m.hours;
            case "sun": return m.sun;
            case "edgeOf": return m.edgeOf(x[0]);
            case "marks": return m.marks.size();
            case "deeds": return m.deeds.size();
            case "gone": return m.gone;
            case "levelAt": return m.levelAt(x[0], x[1]);
            case "sumOf": return m.sumOf(x[0], x[1], x[2], x[3]);
            case "sumTo": return m.sumTo(x[0], x[1]);
            case "flightSum": return m.flightSum(x[0]);
            case "stepSum": return m.stepSum(x[0]);
            case "total": return m.total();
            case "firstReaching": return m.firstReaching(x[0], x[1]);
            case "bestRun": return m.bestRun(x[0]);
            case "dryIn": return m.dryIn(x[0], x[1], x[2], x[3]);
            case "dry": return m.dry();
            case "dryAt": return m.dryAt(x[0]);
            case "longestDry": return m.longestDry(x[0]);
            case "driestFlight": return m.driestFlight();
            case "lowestIn": return m.lowestIn(x[0], x[1], x[2], x[3]);
            case "highestAt": return m.highestAt(x[0]);
            case "upTo": return m.upTo(x[0]);
            case "levelInOrder": return m.levelInOrder(x[0]);
            case "outOfOrder": return m.outOfOrder();
            case "alike": return m.alike(x[0], x[1]);
            case "changedSince": return m.changedSince(x[0]);
            case "totalIn": return m.totalIn(x[0]);
            case "goneIn": return m.goneIn(x[0]);
            case "hoursUntilDry": return m.hoursUntilDry();
            case "sunWanted": return m.sunWanted(x[0]);
            case "bestEdge": return m.bestEdge(x[0], x[1]);
            case "bestSwap": return m.bestSwap(x[0]);
            case "meanLevel": return m.meanLevel();
            case "digest": return m.digest();
            default: throw new UnsupportedOperationException(name);
        }
    }

    private static String answer(java.util.function.Supplier<Object> call) {
        try {
            return call.get().toString();
        } catch (RuntimeException e) {
            return "throws." + e.getClass().getSimpleName();
        }
    }

    private static int below(int bound) {
        seed = seed * 6364136223846793005L + 1442695040888963407L;
        return (int) Long.remainderUnsigned(seed >>> 33, bound);
    }

    /** A number from least to most, or at times one of the bounds, or one past them. */
    private static int number(int least, int most) {
        switch (below(40)) {
            case 0: return least - 1;
            case 1: return most + 1;
            case 2: case 3: return least;
            case 4: case 5: return most;
            case 6: return below(8) == 0 ? Integer.MIN_VALUE : least;
            case 7: return below(8) == 0 ? Integer.MAX_VALUE : most;
            default: return most < least ? least : least + below(most - least + 1);
        }
    }
}
