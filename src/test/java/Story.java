import java.util.ArrayList;
import java.util.List;

/**
 * Calls on a new desk that hold one sentence of the document against the answers. Each question and each refused
 * call is put to a desk of its own, so that no desk gets more than its 512 calls.
 */
final class Story {
    private final Due due;
    private final String sentence;
    private final List<Step> steps = new ArrayList<>();
    private RiverNames desk = new RiverNames();
    private List<Integer> view;

    Story(Due due, String sentence) {
        this.due = due;
        this.sentence = sentence;
    }

    private void is(String call, int got, int want) {
        due.is("\"" + sentence + "\" " + call, got, want);
    }

    /** The same calls on another desk, for a side trip. */
    Story branch() {
        Story branch = new Story(due, sentence);
        for (Step step : steps) {
            branch.make(step);
        }
        return branch;
    }

    private int make(Step step) {
        steps.add(step);
        view = null;
        return step.on(desk);
    }

    private List<Step> stepsAnd(String... calls) {
        List<Step> all = new ArrayList<>(steps);
        for (String call : calls) {
            all.add(Step.of(call));
        }
        return all;
    }

    /** A call of this story, and its answer. */
    Story call(String call, int want) {
        is(call, make(Step.of(call)), want);
        return this;
    }

    /** A call whose answer is due now; it is no call of the story. */
    Story looks(String call, int want) {
        is(call, new Replay(stepsAnd(call)).lastAnswer(), want);
        return this;
    }

    /** A call whose answer is due now, and which changes nothing: neither the state nor the history nor the text. */
    Story refuses(String call, int want) {
        looks(call, want);
        if (view == null) {
            view = View.ofAll(steps);
        }
        is(call + " changes nothing", View.ofAll(stepsAnd(call)).equals(view) ? 1 : 0, 1);
        return this;
    }

    /** A call that records the state before it, so that undo() restores this state. */
    Story isAction(String call, int want) {
        int before = new Replay(stepsAnd("count 8")).lastAnswer();
        Story branch = branch().call(call, want);
        branch.looks("count 8", Math.min(5, before + 1));
        branch.call("undo", Math.min(5, before + 1) - 1);
        is(call + " is undone", View.ofState(branch.steps).equals(View.ofState(steps)) ? 1 : 0, 1);
        return this;
    }

    private static String with(String call, int argument) {
        return call.replace("*", Integer.toString(argument));
    }

    /** An argument, written as *, at the ends of its range, with the answers there, and just and far beyond them. */
    Story range(String call, int least, int atLeast, int most, int atMost) {
        branch().call(with(call, least), atLeast);
        branch().call(with(call, most), atMost);
        for (int beyond : new int[] {least - 1, most + 1, Integer.MIN_VALUE, Integer.MAX_VALUE}) {
            refuses(with(call, beyond), RiverNames.INVALID_ARGUMENT);
        }
        return this;
    }

    /** Lengthens a river by a move for each digit. */
    Story flow(int river, String moves) {
        for (int i = 0; i < moves.length(); i++) {
            int before = new Replay(stepsAnd("river " + river + " 3")).lastAnswer();
            call("flow " + river + " " + moves.charAt(i), before + 1);
        }
        return this;
    }

    /** Appends all characters of a text. */
    Story write(String text) {
        int before = new Replay(stepsAnd("count 9")).lastAnswer();
        for (int i = 0; i < text.length(); i++) {
            call("append " + (int) text.charAt(i), before + i + 1);
        }
        return this;
    }

    /** A text of this story that has so many items. */
    Story loads(String text, int items) {
        return write(text).call("load", items).looks("count 9", 0);
    }

    /** A text that has so many items; it is no part of the story. */
    Story wouldLoad(String text, int items) {
        branch().loads(text, items);
        return this;
    }

    /** A text that has an error; it is no part of the story. */
    Story rejects(String text, int position) {
        branch().write(text).refuses("load", -1000 - position);
        return this;
    }
}
