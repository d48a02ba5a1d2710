import java.util.Arrays;

/** Makes calls by number on RiverNames and on the model, and compares the answers. */
final class Calls {
    static final int APPEND = 0;
    static final int CLEAR_TEXT = 1;
    static final int LOAD = 2;
    static final int ADD_RIVER = 3;
    static final int ADD_TOWN = 4;
    static final int FLOW = 5;
    static final int SET_RANK = 6;
    static final int SET_HALO = 7;
    static final int SET_TOWN_RANK = 8;
    static final int SET_GAP = 9;
    static final int SET = 10;
    static final int REMOVE = 11;
    static final int PLACE = 12;
    static final int TIDY = 13;
    static final int UNDO = 14;
    static final int COUNT = 15;
    static final int RIVER = 16;
    static final int CELL = 17;
    static final int LETTER = 18;
    static final int TOWN = 19;
    static final int LABEL = 20;
    static final int WRITTEN = 21;
    static final int BEND = 22;
    static final int STRAIGHTEST = 23;
    static final int REASON = 24;
    static final int BEST = 25;
    static final int RANK_FOR = 26;
    static final int METHODS = 27;

    static final String[] NAMES = {"append", "clearText", "load", "addRiver", "addTown", "flow", "setRank",
        "setHalo", "setTownRank", "setGap", "set", "remove", "place", "tidy", "undo", "count", "river", "cell",
        "letter", "town", "label", "written", "bend", "straightest", "reason", "best", "rankFor"};
    static final int[] PARAMETERS = {1, 0, 0, 5, 5, 2, 2, 2, 2, 1, 2, 1, 1, 0, 0, 1, 2, 2, 2, 2, 2, 2, 3, 2, 2, 2, 1};

    /** How often each answer code and each method came, to see that the runs reach what they are for. */
    static final int[][] seen = new int[METHODS][5];

    private final RiverNames desk = new RiverNames();
    private final Model model = new Model();
    private final Due due;
    private final int run;
    private int made;

    Calls(Due due, int run) {
        this.due = due;
        this.run = run;
    }

    int make(int method, int... args) {
        int got = onDesk(desk, method, args);
        int want = onModel(method, Arrays.copyOf(args, 5));
        made++;
        seen[method][want >= 0 ? 0 : want == -9 ? 4 : want < -3 ? 2 : -want]++;
        due.is("run " + run + ", call " + made + ": " + NAMES[method] + Arrays.toString(args), got, want);
        return want;
    }

    static int onDesk(RiverNames desk, int method, int... args) {
        int[] a = Arrays.copyOf(args, 5);
        return switch (method) {
            case APPEND -> desk.append(a[0]);
            case CLEAR_TEXT -> desk.clearText();
            case LOAD -> desk.load();
            case ADD_RIVER -> desk.addRiver(a[0], a[1], a[2], a[3], a[4]);
            case ADD_TOWN -> desk.addTown(a[0], a[1], a[2], a[3], a[4]);
            case FLOW -> desk.flow(a[0], a[1]);
            case SET_RANK -> desk.setRank(a[0], a[1]);
            case SET_HALO -> desk.setHalo(a[0], a[1]);
            case SET_TOWN_RANK -> desk.setTownRank(a[0], a[1]);
            case SET_GAP -> desk.setGap(a[0]);
            case SET -> desk.set(a[0], a[1]);
            case REMOVE -> desk.remove(a[0]);
            case PLACE -> desk.place(a[0]);
            case TIDY -> desk.tidy();
            case UNDO -> desk.undo();
            case COUNT -> desk.count(a[0]);
            case RIVER -> desk.river(a[0], a[1]);
            case CELL -> desk.cell(a[0], a[1]);
            case LETTER -> desk.letter(a[0], a[1]);
            case TOWN -> desk.town(a[0], a[1]);
            case LABEL -> desk.label(a[0], a[1]);
            case WRITTEN -> desk.written(a[0], a[1]);
            case BEND -> desk.bend(a[0], a[1], a[2]);
            case STRAIGHTEST -> desk.straightest(a[0], a[1]);
            case REASON -> desk.reason(a[0], a[1]);
            case BEST -> desk.best(a[0], a[1]);
            default -> desk.rankFor(a[0]);
        };
    }

    private int onModel(int method, int[] a) {
        return switch (method) {
            case APPEND -> model.append(a[0]);
            case CLEAR_TEXT -> model.clearText();
            case LOAD -> model.load();
            case ADD_RIVER -> model.addRiver(a[0], a[1], a[2], a[3], a[4]);
            case ADD_TOWN -> model.addTown(a[0], a[1], a[2], a[3], a[4]);
            case FLOW -> model.flow(a[0], a[1]);
            case SET_RANK -> model.setRank(a[0], a[1]);
            case SET_HALO -> model.setHalo(a[0], a[1]);
            case SET_TOWN_RANK -> model.setTownRank(a[0], a[1]);
            case SET_GAP -> model.setGap(a[0]);
            case SET -> model.set(a[0], a[1]);
            case REMOVE -> model.remove(a[0]);
            case PLACE -> model.place(a[0]);
            case TIDY -> model.tidy();
            case UNDO -> model.undo();
            case COUNT -> model.count(a[0]);
            case RIVER -> model.river(a[0], a[1]);
            case CELL -> model.cell(a[0], a[1]);
            case LETTER -> model.letter(a[0], a[1]);
            case TOWN -> model.town(a[0], a[1]);
            case LABEL -> model.label(a[0], a[1]);
            case WRITTEN -> model.written(a[0], a[1]);
            case BEND -> model.bend(a[0], a[1], a[2]);
            case STRAIGHTEST -> model.straightest(a[0], a[1]);
            case REASON -> model.reason(a[0], a[1]);
            case BEST -> model.best(a[0], a[1]);
            default -> model.rankFor(a[0]);
        };
    }

    /** Prints how often the methods answered a value, -1, -2 (or a reading error), -3 and -9. */
    static void printSeen() {
        for (int method = 0; method < METHODS; method++) {
            System.out.println(NAMES[method] + " " + Arrays.toString(seen[method]));
        }
    }
}
