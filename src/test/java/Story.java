/**
 * All that can be seen of a staircase, what it keeps included: it is undone deed by deed, and brought back to
 * each mark. Two staircases with the same story are alike in everything. The staircase is used up by it.
 */
final class Story {
    private final PuddleStairs stairs;
    private final StringBuilder text = new StringBuilder();
    private final int flights;
    private final int steps;

    private Story(PuddleStairs stairs) {
        this.stairs = stairs;
        flights = stairs.flights();
        steps = stairs.steps();
    }

    static String of(PuddleStairs stairs) {
        Story story = new Story(stairs);
        story.tellAll();
        story.tellDeeds();
        story.tellMarks();
        return story.text.toString();
    }

    private void tellAll() {
        text.append("flights ").append(flights).append(" steps ").append(steps);
        text.append(" hours ").append(stairs.hours()).append(" gone ").append(stairs.gone());
        text.append(" sun ").append(stairs.sun()).append(" marks ").append(stairs.marks());
        text.append(" deeds ").append(stairs.deeds()).append(" digest ").append(stairs.digest());
        text.append("\nedges");
        for (int step = 0; step < steps; step++) {
            text.append(' ').append(stairs.edgeOf(step));
        }
        tellLevels();
    }

    private void tellDeeds() {
        int deeds = stairs.deeds();
        for (int deed = 0; deed < deeds; deed++) {
            text.append("\nundo ").append(stairs.undo());
            tellLevels();
        }
        text.append("\ndeeds ").append(stairs.deeds());
    }

    private void tellMarks() {
        int marks = stairs.marks();
        for (int mark = 0; mark < marks; mark++) {
            text.append("\nback ").append(stairs.back(mark));
            tellLevels();
        }
        text.append("\nhours ").append(stairs.hours()).append(" gone ").append(stairs.gone());
    }

    private void tellLevels() {
        text.append("\nlevels");
        for (int flight = 0; flight < flights; flight++) {
            for (int step = 0; step < steps; step++) {
                text.append(' ').append(stairs.levelAt(flight, step));
            }
        }
    }
}
