import java.util.ArrayList;
import java.util.List;

/** What can be seen behind some calls. */
final class View {
    private static final int MOST_UNDONE = 6;
    private final Replay desk;
    private final List<Integer> seen = new ArrayList<>();

    private View(List<Step> steps) {
        desk = new Replay(steps);
    }

    /** The state: all but the text and the history. */
    static List<Integer> ofState(List<Step> steps) {
        View view = new View(steps);
        view.lookAround();
        return view.seen;
    }

    /** The state, the states of the history, and the text, as far as load() tells it. */
    static List<Integer> ofAll(List<Step> steps) {
        List<Integer> seen = new ArrayList<>(behind(steps));
        List<Step> more = new ArrayList<>(steps);
        for (int i = 0; i < MOST_UNDONE; i++) {
            more.add(Step.of("undo"));
            seen.addAll(behind(more));
        }
        more = new ArrayList<>(steps);
        more.add(Step.of("load"));
        View loaded = new View(more);
        seen.add(loaded.desk.lastAnswer());
        seen.addAll(behind(more));
        return seen;
    }

    private static List<Integer> behind(List<Step> steps) {
        View view = new View(steps);
        view.look(Calls.COUNT, 8);
        view.look(Calls.COUNT, 9);
        view.lookAround();
        return view.seen;
    }

    private int look(int method, int... args) {
        int answer = desk.ask(method, args);
        seen.add(answer);
        return answer;
    }

    private void lookAround() {
        for (int what = 0; what <= 7; what++) {
            look(Calls.COUNT, what);
        }
        int rivers = desk.ask(Calls.COUNT, 0);
        int towns = desk.ask(Calls.COUNT, 1);
        int labels = desk.ask(Calls.COUNT, 2);
        for (int river = 0; river <= rivers; river++) {
            lookAtRiver(river);
        }
        for (int town = 0; town <= towns; town++) {
            lookAtAll(Calls.TOWN, town, 5);
        }
        for (int label = 0; label <= labels; label++) {
            lookAtAll(Calls.LABEL, label, 7);
        }
    }

    private void lookAtAll(int method, int number, int most) {
        for (int what = 0; what <= most; what++) {
            look(method, number, what);
        }
    }

    private void lookAtRiver(int river) {
        lookAtAll(Calls.RIVER, river, 6);
        lookAtAll(Calls.LETTER, river, 12);
        lookAtAll(Calls.BEST, river, 1);
        look(Calls.RANK_FOR, river);
        int moves = desk.ask(Calls.RIVER, river, 3);
        for (int place = 0; place <= moves + 1; place++) {
            int cell = look(Calls.CELL, river, place);
            look(Calls.WRITTEN, cell / 100, cell % 100);
            look(Calls.REASON, river, place);
            look(Calls.BEND, river, 0, place);
            look(Calls.STRAIGHTEST, river, place);
        }
    }
}
