import java.util.List;

/** A desk behind some calls. The calls are made once more on a new desk when its 512 calls are used up. */
final class Replay {
    static final int MOST_CALLS = 512;
    private final List<Step> steps;
    private RiverNames desk;
    private int used;
    private int lastAnswer;

    Replay(List<Step> steps) {
        this.steps = steps;
        if (steps.size() >= MOST_CALLS) {
            throw new IllegalStateException("no call is left for a question");
        }
        begin();
    }

    private void begin() {
        desk = new RiverNames();
        used = steps.size();
        for (Step step : steps) {
            lastAnswer = step.on(desk);
        }
    }

    /** What the last of the calls answered. */
    int lastAnswer() {
        return lastAnswer;
    }

    /** Makes a call that changes nothing. */
    int ask(int method, int... args) {
        if (used >= MOST_CALLS) {
            begin();
        }
        used++;
        return Calls.onDesk(desk, method, args);
    }
}
