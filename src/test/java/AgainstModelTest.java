/** Long runs of calls, the same ones on RiverNames and on the model, whose answers must agree. */
public final class AgainstModelTest {
    private static final int RUNS = 1500;
    private static final int CALLS = 512;
    private static final Due due = new Due("AgainstModelTest");
    private final Dice dice;
    private final Calls calls;
    private final boolean crowded;
    private int made;
    private int rivers;
    private int towns;

    private AgainstModelTest(int run) {
        dice = new Dice(run);
        calls = new Calls(due, run);
        crowded = dice.below(3) > 0;
    }

    public static void main(String[] args) {
        for (int run = 0; run < RUNS && due.allRight(); run++) {
            new AgainstModelTest(run).go();
        }
        due.end();
    }

    private int call(int method, int... args) {
        made++;
        return calls.make(method, args);
    }

    private void go() {
        build();
        while (made < CALLS && due.allRight()) {
            step();
        }
    }

    private void build() {
        rivers = dice.below(8);
        for (int i = 0; i < rivers; i++) {
            int halo = dice.below(3);
            if (dice.below(8) == 0) {
                write(riverText(halo));
                call(Calls.LOAD);
                call(Calls.CLEAR_TEXT);
            } else {
                call(Calls.ADD_RIVER, 1 + dice.below(dice.below(2) == 0 ? 4 : 12), column(), row(), rank(), halo);
                meander(i, dice.below(dice.below(6) == 0 ? 65 : 30));
            }
        }
        towns = dice.below(dice.below(4) == 0 ? 12 : 5);
        for (int i = 0; i < towns; i++) {
            call(Calls.ADD_TOWN, column(), row(), 1 + dice.below(12), 1 + dice.below(3), rank());
        }
        call(Calls.SET_GAP, dice.below(4) == 0 ? dice.below(61) : dice.below(4));
    }

    private void meander(int river, int moves) {
        int direction = dice.below(8);
        for (int i = 0; i < moves && made < CALLS; i++) {
            direction = turn(direction);
            call(Calls.FLOW, river, direction);
        }
    }

    private int turn(int direction) {
        int chance = dice.below(10);
        return chance < 6 ? direction : chance < 9 ? (direction + 7 + dice.below(3)) % 8 : dice.below(8);
    }

    /** Mostly a river that there is. */
    private int river() {
        return dice.below(20) == 0 ? dice.below(9) - 1 : dice.below(Math.max(1, Math.min(6, rivers)));
    }

    private int town() {
        return dice.below(20) == 0 ? dice.below(13) - 1 : dice.below(Math.max(1, Math.min(10, towns)));
    }

    private int column() {
        return crowded ? 10 + dice.below(14) : dice.below(60);
    }

    private int row() {
        return crowded ? 10 + dice.below(10) : dice.below(40);
    }

    private int rank() {
        return crowded ? 4 + dice.below(3) : 1 + dice.below(9);
    }

    private String riverText(int halo) {
        StringBuilder text = new StringBuilder("river ");
        int letters = 1 + dice.below(6);
        for (int i = 0; i < letters; i++) {
            text.append((char) ('a' + dice.below(26)));
        }
        text.append(' ').append(column()).append(' ').append(row()).append(' ').append(rank());
        text.append(' ').append(halo).append(' ');
        int direction = dice.below(8);
        int moves = 1 + dice.below(dice.below(6) == 0 ? 62 : 20);
        for (int i = 0; i < moves; i++) {
            direction = turn(direction);
            text.append(direction);
        }
        return text.append(';').toString();
    }

    private String townText() {
        return "town " + column() + " " + row() + " " + dice.below(14) + " " + (1 + dice.below(3)) + " " + rank() + ";";
    }

    private String broken(String text) {
        StringBuilder broken = new StringBuilder(text);
        int at = dice.below(text.length());
        switch (dice.below(4)) {
            case 0 -> broken.setLength(at);
            case 1 -> broken.deleteCharAt(at);
            case 2 -> broken.setCharAt(at, " ;a0189{/".charAt(dice.below(9)));
            default -> broken.insert(at, " ;a0189:`".charAt(dice.below(9)));
        }
        return broken.toString();
    }

    private void write(String text) {
        for (int i = 0; i < text.length() && made < CALLS; i++) {
            call(Calls.APPEND, text.charAt(i));
        }
    }

    private void readText() {
        String text = dice.below(2) == 0 ? townText() : riverText(dice.below(3));
        if (dice.below(3) == 0) {
            text += dice.below(2) == 0 ? townText() : riverText(0);
        }
        write(dice.below(2) == 0 ? broken(text) : text);
        call(Calls.LOAD);
        if (dice.below(2) == 0) {
            call(Calls.CLEAR_TEXT);
        }
    }

    private void step() {
        int chance = dice.below(100);
        if (chance < 1) {
            readText();
        } else if (chance < 4) {
            fill();
        } else if (chance < 15) {
            change();
        } else {
            look();
        }
    }

    /** Sets labels one after another, so that many rivers get them in a mixed order. */
    private void fill() {
        if (dice.below(2) == 0) {
            call(Calls.PLACE, 1 + dice.below(5));
            return;
        }
        for (int i = 0; i < 25; i++) {
            call(Calls.SET, river(), dice.below(dice.below(3) == 0 ? 61 : 25));
        }
    }

    private void change() {
        int river = river();
        switch (dice.below(16)) {
            case 0, 1 -> call(Calls.SET_RANK, river, rank());
            case 2 -> call(Calls.SET_HALO, river, dice.below(3));
            case 3 -> call(Calls.SET_TOWN_RANK, town(), rank());
            case 4, 5 -> call(Calls.SET_GAP, dice.below(8));
            case 6 -> call(Calls.REMOVE, dice.below(20));
            case 7 -> call(Calls.TIDY);
            case 8, 9, 10 -> call(Calls.UNDO);
            case 11 -> call(Calls.FLOW, river, dice.below(8));
            case 12 -> call(Calls.ADD_TOWN, column(), row(), 1 + dice.below(5), 1 + dice.below(3), rank());
            case 13 -> call(Calls.ADD_RIVER, 1 + dice.below(12), column(), row(), rank(), dice.below(3));
            default -> call(dice.below(Calls.METHODS), odd(), odd(), odd(), odd(), odd());
        }
    }

    private void lookAtCell(int river) {
        int cell = call(Calls.CELL, river, dice.below(25));
        if (cell < 0 || dice.below(8) == 0) {
            call(Calls.WRITTEN, column(), row());
        } else {
            call(Calls.WRITTEN, cell / 100, cell % 100);
        }
    }

    /** An argument of any size, often at the edge of a range. */
    private int odd() {
        int[] edges = {-1, 0, 1, 2, 3, 5, 6, 7, 8, 9, 10, 12, 13, 20, 39, 40, 59, 60, 61, 62, 150, 255, 256,
            Integer.MIN_VALUE, Integer.MAX_VALUE, Integer.MAX_VALUE - 1, -9, 1 << 30};
        return edges[dice.below(edges.length)];
    }

    private void look() {
        int river = river();
        switch (dice.below(14)) {
            case 0, 1 -> call(Calls.COUNT, dice.below(11));
            case 2 -> call(Calls.RIVER, river, dice.below(8));
            case 3 -> call(Calls.CELL, river, dice.below(dice.below(4) == 0 ? 62 : 30));
            case 4 -> call(Calls.LETTER, river, dice.below(14) - 1);
            case 5 -> call(Calls.TOWN, town(), dice.below(7));
            case 6, 7 -> call(Calls.LABEL, dice.below(dice.below(2) == 0 ? 4 : 21), dice.below(9));
            case 8 -> lookAtCell(river);
            case 9 -> call(Calls.BEND, river, dice.below(20), dice.below(20));
            case 10 -> call(Calls.STRAIGHTEST, river, dice.below(dice.below(2) == 0 ? 12 : 63));
            case 11 -> call(Calls.REASON, river, dice.below(dice.below(6) == 0 ? 62 : 25));
            case 12 -> call(Calls.BEST, river, dice.below(3));
            default -> call(Calls.RANK_FOR, river);
        }
    }
}
