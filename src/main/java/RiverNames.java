import java.util.Arrays;

/** A lettering desk for maps: sets the names of bent rivers beside other names and towns. */
public final class RiverNames {
    public static final int INVALID_ARGUMENT = -1;
    public static final int ILLEGAL_STATE = -2;
    public static final int CAPACITY_EXCEEDED = -3;
    public static final int NONE = -9;

    private static final int COLUMNS = 60;
    private static final int ROWS = 40;
    private static final int DIRECTIONS = 8;
    private static final int MOST_RIVERS = 6;
    private static final int MOST_LETTERS = 12;
    private static final int MOST_MOVES = 60;
    private static final int MOST_PLACES = MOST_MOVES + 1;
    private static final int MOST_HALO = 2;
    private static final int MOST_TOWNS = 10;
    private static final int MOST_WIDTH = 12;
    private static final int MOST_HEIGHT = 3;
    private static final int HIGHEST_RANK = 9;
    private static final int MOST_LABELS = 20;
    private static final int MOST_REPEATS = 5;
    private static final int FIRST_GAP = 10;
    private static final int MOST_GAP = 60;
    private static final int HIGHEST_SIGN = 255;
    private static final int MOST_SIGNS = 150;
    private static final int MOST_STATES = 5;
    private static final int NO_REASON = 0;
    private static final int NO_LABEL = -1;
    private static final int READING_ERROR = -1000;
    private static final String RIVER_WORD = "river";
    private static final String TOWN_WORD = "town";
    private static final int[] STEPS_RIGHT = {1, 1, 0, -1, -1, -1, 0, 1};
    private static final int[] STEPS_DOWN = {0, 1, 1, 1, 0, -1, -1, -1};

    private final Reader reader = new Reader();
    private final History history = new History();
    private final Judge judge = new Judge();
    private final Sheet sheet = new Sheet();

    public RiverNames() {
    }

    // ---- rivers and towns

    public int append(int character) {
        if (!within(character, 1, HIGHEST_SIGN)) {
            return INVALID_ARGUMENT;
        }
        return reader.text.write(character) ? reader.text.length : CAPACITY_EXCEEDED;
    }

    public int clearText() {
        return reader.text.wipe();
    }

    public int load() {
        int answer = reader.readInto(history.newDraft());
        if (answer >= 0) {
            history.enterDraft();
            reader.text.wipe();
        }
        return answer;
    }

    public int addRiver(int letters, int x, int y, int rank, int halo) {
        if (!within(letters, 1, MOST_LETTERS) || !onMap(x, y) || !isRank(rank) || !isHalo(halo)) {
            return INVALID_ARGUMENT;
        }
        River added = history.newDraft().nextRiver();
        if (added == null) {
            return CAPACITY_EXCEEDED;
        }
        for (int i = 0; i < letters; i++) {
            added.addLetter('a' + i);
        }
        added.begin(x, y, rank, halo);
        history.enterDraft();
        return added.number;
    }

    public int addTown(int x, int y, int width, int height, int rank) {
        if (!onMap(x, y) || !within(width, 1, MOST_WIDTH) || !within(height, 1, MOST_HEIGHT)
                || !isRank(rank) || !onMap(x + width - 1, y + height - 1)) {
            return INVALID_ARGUMENT;
        }
        Board draft = history.newDraft();
        Town added = draft.nextTown();
        if (added == null) {
            return CAPACITY_EXCEEDED;
        }
        added.build(x, y, width, height, rank);
        history.enterDraft();
        return draft.townCount - 1;
    }

    public int flow(int river, int direction) {
        River found = history.newDraft().riverAt(river);
        if (found == null || !within(direction, 0, DIRECTIONS - 1)) {
            return INVALID_ARGUMENT;
        }
        if (found.leavesMap(direction)) {
            return ILLEGAL_STATE;
        }
        if (!found.lengthen(direction)) {
            return CAPACITY_EXCEEDED;
        }
        history.enterDraft();
        return found.moves;
    }

    public int setRank(int river, int rank) {
        River found = history.newDraft().riverAt(river);
        if (found == null || !isRank(rank)) {
            return INVALID_ARGUMENT;
        }
        int previous = found.rank;
        found.rank = rank;
        history.enterDraft();
        return previous;
    }

    public int setHalo(int river, int halo) {
        River found = history.newDraft().riverAt(river);
        if (found == null || !isHalo(halo)) {
            return INVALID_ARGUMENT;
        }
        int previous = found.halo;
        found.halo = halo;
        history.enterDraft();
        return previous;
    }

    public int setTownRank(int town, int rank) {
        Town found = history.newDraft().townAt(town);
        if (found == null || !isRank(rank)) {
            return INVALID_ARGUMENT;
        }
        int previous = found.rank;
        found.rank = rank;
        history.enterDraft();
        return previous;
    }

    public int setGap(int gap) {
        if (!within(gap, 0, MOST_GAP)) {
            return INVALID_ARGUMENT;
        }
        Board draft = history.newDraft();
        int previous = draft.gap;
        draft.gap = gap;
        history.enterDraft();
        return previous;
    }

    // ---- labels

    public int set(int river, int start) {
        Board draft = history.newDraft();
        River found = draft.riverAt(river);
        if (found == null || !isPlaceNumber(start)) {
            return INVALID_ARGUMENT;
        }
        if (judge.reasonAgainst(draft, found, start, NO_LABEL) != NO_REASON) {
            return ILLEGAL_STATE;
        }
        if (!draft.addLabel(found, start)) {
            return CAPACITY_EXCEEDED;
        }
        history.enterDraft();
        return draft.labelCount - 1;
    }

    public int remove(int label) {
        Board draft = history.newDraft();
        if (!draft.dropLabel(label)) {
            return INVALID_ARGUMENT;
        }
        history.enterDraft();
        return draft.labelCount;
    }

    public int place(int repeats) {
        if (!within(repeats, 1, MOST_REPEATS)) {
            return INVALID_ARGUMENT;
        }
        Board draft = history.newDraft();
        draft.labelCount = 0;
        judge.letterAll(draft, repeats);
        history.enterDraft();
        return draft.labelCount;
    }

    public int tidy() {
        int removed = judge.dropMisfits(history.newDraft());
        history.enterDraft();
        return removed;
    }

    public int undo() {
        return history.stepBack();
    }

    // ---- looking

    public int count(int what) {
        Board board = history.present();
        switch (what) {
            case 0:
                return board.riverCount;
            case 1:
                return board.townCount;
            case 2:
                return board.labelCount;
            case 3:
                return board.gap;
            case 4:
                return board.costOfLabels();
            case 5:
                return judge.misfits(board);
            case 6:
                return board.riversWithoutLabel();
            case 7:
                return board.cellsOfLabels(sheet);
            case 8:
                return history.size;
            case 9:
                return reader.text.length;
            default:
                return INVALID_ARGUMENT;
        }
    }

    public int river(int river, int what) {
        Board board = history.present();
        River found = board.riverAt(river);
        if (found == null) {
            return INVALID_ARGUMENT;
        }
        switch (what) {
            case 0:
                return found.rank;
            case 1:
                return found.halo;
            case 2:
                return found.letters;
            case 3:
                return found.moves;
            case 4:
                return board.labelsOf(found);
            case 5:
                return found.differentCells(sheet);
            case 6:
                return found.bendOf(0, found.moves + 1);
            default:
                return INVALID_ARGUMENT;
        }
    }

    public int cell(int river, int place) {
        River found = history.present().riverAt(river);
        if (found == null || !isPlaceNumber(place)) {
            return INVALID_ARGUMENT;
        }
        return found.hasPlace(place) ? 100 * found.columnAt(place) + found.rowAt(place) : NONE;
    }

    public int letter(int river, int index) {
        River found = history.present().riverAt(river);
        if (found == null || index < 0) {
            return INVALID_ARGUMENT;
        }
        return found.letterAt(index);
    }

    public int town(int town, int what) {
        Board board = history.present();
        Town found = board.townAt(town);
        if (found == null) {
            return INVALID_ARGUMENT;
        }
        switch (what) {
            case 0:
                return found.column;
            case 1:
                return found.row;
            case 2:
                return found.width;
            case 3:
                return found.height;
            case 4:
                return found.rank;
            case 5:
                return board.labelsOver(found);
            default:
                return INVALID_ARGUMENT;
        }
    }

    public int label(int label, int what) {
        Board board = history.present();
        Label found = board.labelAt(label);
        if (found == null) {
            return INVALID_ARGUMENT;
        }
        River named = found.river;
        switch (what) {
            case 0:
                return named.number;
            case 1:
                return found.start;
            case 2:
                return named.costOf(found.start);
            case 3:
                return named.bendOf(found.start, named.letters);
            case 4:
                return named.turnsNameAt(found.start) ? 1 : 0;
            case 5:
                return found.cells(sheet);
            case 6:
                return judge.reasonAgainst(board, named, found.start, label);
            case 7:
                return board.townsUnder(found);
            default:
                return INVALID_ARGUMENT;
        }
    }

    public int written(int x, int y) {
        if (!onMap(x, y)) {
            return INVALID_ARGUMENT;
        }
        return history.present().signOn(x, y);
    }

    // ---- stretches

    public int bend(int river, int start, int places) {
        River found = history.present().riverAt(river);
        if (found == null || !isPlaceNumber(start) || !within(places, 1, MOST_PLACES)) {
            return INVALID_ARGUMENT;
        }
        return start <= found.lastStart(places) ? found.bendOf(start, places) : NONE;
    }

    public int straightest(int river, int places) {
        River found = history.present().riverAt(river);
        if (found == null || !within(places, 1, MOST_PLACES)) {
            return INVALID_ARGUMENT;
        }
        return found.straightestStart(places);
    }

    public int reason(int river, int start) {
        Board board = history.present();
        River found = board.riverAt(river);
        if (found == null || !isPlaceNumber(start)) {
            return INVALID_ARGUMENT;
        }
        return judge.reasonAgainst(board, found, start, NO_LABEL);
    }

    public int best(int river, int what) {
        Board board = history.present();
        River found = board.riverAt(river);
        if (found == null || !within(what, 0, 1)) {
            return INVALID_ARGUMENT;
        }
        int start = judge.bestStart(board, found);
        return start == NONE || what == 0 ? start : found.costOf(start);
    }

    public int rankFor(int river) {
        Board board = history.present();
        River found = board.riverAt(river);
        return found == null ? INVALID_ARGUMENT : judge.leastRank(board, found);
    }

    // ---- ranges

    private static boolean within(int value, int least, int most) {
        return value >= least && value <= most;
    }

    private static boolean onMap(int column, int row) {
        return column >= 0 && column < COLUMNS && row >= 0 && row < ROWS;
    }

    private static boolean isRank(int value) {
        return within(value, 1, HIGHEST_RANK);
    }

    private static boolean isHalo(int value) {
        return within(value, 0, MOST_HALO);
    }

    private static boolean isPlaceNumber(int value) {
        return within(value, 0, MOST_PLACES - 1);
    }

    /** A river: its name, and its course as moves and as the places behind them. */
    private static final class River {
        final int number;
        int rank;
        int halo;
        int letters;
        int moves;
        private final int[] name = new int[MOST_LETTERS];
        private final int[] directions = new int[MOST_MOVES];
        private final int[] columns = new int[MOST_PLACES];
        private final int[] rows = new int[MOST_PLACES];

        River(int number) {
            this.number = number;
        }

        void copyFrom(River other) {
            rank = other.rank;
            halo = other.halo;
            letters = other.letters;
            moves = other.moves;
            System.arraycopy(other.name, 0, name, 0, MOST_LETTERS);
            System.arraycopy(other.directions, 0, directions, 0, MOST_MOVES);
            System.arraycopy(other.columns, 0, columns, 0, MOST_PLACES);
            System.arraycopy(other.rows, 0, rows, 0, MOST_PLACES);
        }

        /** Forgets the river that this object held in an earlier state. */
        void forget() {
            letters = 0;
            moves = 0;
        }

        void addLetter(int sign) {
            if (within(letters, 0, MOST_LETTERS - 1)) {
                name[letters] = sign;
                letters++;
            }
        }

        void begin(int column, int row, int firstRank, int firstHalo) {
            columns[0] = column;
            rows[0] = row;
            rank = firstRank;
            halo = firstHalo;
        }

        boolean leavesMap(int direction) {
            return !within(direction, 0, DIRECTIONS - 1)
                    || !onMap(columnAt(moves) + STEPS_RIGHT[direction], rowAt(moves) + STEPS_DOWN[direction]);
        }

        /** Adds a move; false if there is no such move or no room for it. */
        boolean lengthen(int direction) {
            if (!within(moves, 0, MOST_MOVES - 1) || leavesMap(direction)) {
                return false;
            }
            columns[moves + 1] = columns[moves] + STEPS_RIGHT[direction];
            rows[moves + 1] = rows[moves] + STEPS_DOWN[direction];
            directions[moves] = direction;
            moves++;
            return true;
        }

        boolean hasPlace(int place) {
            return place >= 0 && place <= moves;
        }

        int columnAt(int place) {
            return hasPlace(place) ? columns[place] : NONE;
        }

        int rowAt(int place) {
            return hasPlace(place) ? rows[place] : NONE;
        }

        int letterAt(int index) {
            return within(index, 0, letters - 1) ? name[index] : NONE;
        }

        /** The last start of a stretch of so many places; negative if the river is too short. */
        int lastStart(int places) {
            return moves + 1 - places;
        }

        /** The turn between a move and the next one. */
        private int turnBehind(int move) {
            if (move < 0 || move >= moves - 1) {
                return 0;
            }
            int difference = Math.abs(directions[move] - directions[move + 1]);
            return Math.min(difference, DIRECTIONS - difference);
        }

        int bendOf(int start, int places) {
            int sum = 0;
            for (int move = start; move < start + places - 2; move++) {
                sum += turnBehind(move);
            }
            return sum;
        }

        int straightestStart(int places) {
            int found = NONE;
            int least = 0;
            for (int start = 0; start <= lastStart(places); start++) {
                int bend = bendOf(start, places);
                if (found == NONE || bend < least) {
                    found = start;
                    least = bend;
                }
            }
            return found;
        }

        int costOf(int start) {
            return 10 * bendOf(start, letters) + Math.abs(2 * start + letters - 1 - moves);
        }

        /** Whether the name would stand upside down if it ran along the river from this start. */
        boolean turnsNameAt(int start) {
            int last = start + letters - 1;
            int right = columnAt(last) - columnAt(start);
            return right < 0 || right == 0 && rowAt(last) < rowAt(start);
        }

        private boolean isNear(int place, int column, int row, int reach) {
            return place >= 0 && place <= moves && Math.abs(columns[place] - column) <= reach
                    && Math.abs(rows[place] - row) <= reach;
        }

        /** Whether the name from this start has a letter at most so many columns and rows from a cell. */
        boolean hasLetterNear(int start, int column, int row, int reach) {
            for (int place = start; place < start + letters; place++) {
                if (isNear(place, column, row, reach)) {
                    return true;
                }
            }
            return false;
        }

        /** The letter that the name from this start has on a cell, or NONE. */
        int letterOn(int start, int column, int row) {
            for (int place = start; place < start + letters; place++) {
                if (isNear(place, column, row, 0)) {
                    int index = place - start;
                    return letterAt(turnsNameAt(start) ? letters - 1 - index : index);
                }
            }
            return NONE;
        }

        int differentCells(Sheet sheet) {
            sheet.clear();
            for (int place = 0; place <= moves; place++) {
                sheet.markAround(columnAt(place), rowAt(place), 0);
            }
            return sheet.marked;
        }
    }

    /** A town: a rectangle of cells. */
    private static final class Town {
        int column;
        int row;
        int width;
        int height;
        int rank;

        void build(int left, int upper, int cellsWide, int cellsHigh, int firstRank) {
            column = left;
            row = upper;
            width = cellsWide;
            height = cellsHigh;
            rank = firstRank;
        }

        void copyFrom(Town other) {
            build(other.column, other.row, other.width, other.height, other.rank);
        }

        /** Whether a cell lies at most so many columns and rows from a cell of the town. */
        boolean isNear(int x, int y, int reach) {
            return within(x, column - reach, column + width - 1 + reach)
                    && within(y, row - reach, row + height - 1 + reach);
        }
    }

    /** A label that stands: a river's name from a start. */
    private static final class Label {
        River river;
        int start;

        Label(River river) {
            this.river = river;
        }

        void put(River named, int place) {
            river = named;
            start = place;
        }

        boolean lapsOver(Town town) {
            for (int place = start; place < start + river.letters; place++) {
                if (town.isNear(river.columnAt(place), river.rowAt(place), river.halo)) {
                    return true;
                }
            }
            return false;
        }

        void markArea(Sheet sheet) {
            for (int place = start; place < start + river.letters; place++) {
                sheet.markAround(river.columnAt(place), river.rowAt(place), river.halo);
            }
        }

        int cells(Sheet sheet) {
            sheet.clear();
            markArea(sheet);
            return sheet.marked;
        }
    }

    /** A sheet as large as the map, on which cells are marked to count them once each. */
    private static final class Sheet {
        int marked;
        private final int[] marks = new int[COLUMNS * ROWS];

        void clear() {
            Arrays.fill(marks, 0);
            marked = 0;
        }

        void markAround(int column, int row, int reach) {
            for (int y = row - reach; y <= row + reach; y++) {
                for (int x = column - reach; x <= column + reach; x++) {
                    mark(x, y);
                }
            }
        }

        private void mark(int x, int y) {
            if (onMap(x, y) && marks[y * COLUMNS + x] == 0) {
                marks[y * COLUMNS + x] = 1;
                marked++;
            }
        }
    }

    /** A state: rivers, towns, labels and the gap. */
    private static final class Board {
        int riverCount;
        int townCount;
        int labelCount;
        int gap = FIRST_GAP;
        private final River[] rivers = new River[MOST_RIVERS];
        private final Town[] towns = new Town[MOST_TOWNS];
        private final Label[] labels = new Label[MOST_LABELS];

        Board() {
            for (int i = 0; i < MOST_RIVERS; i++) {
                rivers[i] = new River(i);
            }
            for (int i = 0; i < MOST_TOWNS; i++) {
                towns[i] = new Town();
            }
            for (int i = 0; i < MOST_LABELS; i++) {
                labels[i] = new Label(rivers[0]);
            }
        }

        void copyFrom(Board other) {
            riverCount = 0;
            townCount = 0;
            labelCount = 0;
            gap = other.gap;
            for (int i = 0; i < other.riverCount; i++) {
                copyRiver(other.riverAt(i));
            }
            for (int i = 0; i < other.townCount; i++) {
                copyTown(other.townAt(i));
            }
            for (int i = 0; i < other.labelCount; i++) {
                copyLabel(other.labelAt(i));
            }
        }

        private void copyRiver(River theirs) {
            River mine = nextRiver();
            if (mine != null && theirs != null) {
                mine.copyFrom(theirs);
            }
        }

        private void copyTown(Town theirs) {
            Town mine = nextTown();
            if (mine != null && theirs != null) {
                mine.copyFrom(theirs);
            }
        }

        private void copyLabel(Label theirs) {
            if (theirs != null) {
                addLabel(riverAt(theirs.river.number), theirs.start);
            }
        }

        River riverAt(int number) {
            return within(number, 0, riverCount - 1) ? rivers[number] : null;
        }

        Town townAt(int number) {
            return within(number, 0, townCount - 1) ? towns[number] : null;
        }

        Label labelAt(int number) {
            return within(number, 0, labelCount - 1) ? labels[number] : null;
        }

        /** The object for one more river, still without a name and moves; null if there is no room. */
        River nextRiver() {
            if (!within(riverCount, 0, MOST_RIVERS - 1)) {
                return null;
            }
            River next = rivers[riverCount];
            if (next != null) {
                next.forget();
                riverCount++;
            }
            return next;
        }

        /** The object for one more town; null if there is no room. */
        Town nextTown() {
            if (!within(townCount, 0, MOST_TOWNS - 1)) {
                return null;
            }
            townCount++;
            return towns[townCount - 1];
        }

        /** Adds a label; false if there is no room. */
        boolean addLabel(River river, int start) {
            if (river == null || !within(labelCount, 0, MOST_LABELS - 1)) {
                return false;
            }
            Label next = labels[labelCount];
            if (next == null) {
                return false;
            }
            next.put(river, start);
            labelCount++;
            return true;
        }

        /** Takes a label away; false if there is no such label. */
        boolean dropLabel(int number) {
            Label dropped = labelAt(number);
            if (dropped == null) {
                return false;
            }
            for (int i = number; i < labelCount - 1; i++) {
                labels[i] = labels[i + 1];
            }
            labels[labelCount - 1] = dropped;
            labelCount--;
            return true;
        }

        int labelsOf(River river) {
            int sum = 0;
            for (int i = 0; i < labelCount; i++) {
                Label label = labelAt(i);
                if (label != null && label.river.number == river.number) {
                    sum++;
                }
            }
            return sum;
        }

        int labelsOver(Town town) {
            int sum = 0;
            for (int i = 0; i < labelCount; i++) {
                Label label = labelAt(i);
                if (label != null && label.lapsOver(town)) {
                    sum++;
                }
            }
            return sum;
        }

        int townsUnder(Label label) {
            int sum = 0;
            for (int i = 0; i < townCount; i++) {
                Town town = townAt(i);
                if (town != null && label.lapsOver(town)) {
                    sum++;
                }
            }
            return sum;
        }

        int costOfLabels() {
            int sum = 0;
            for (int i = 0; i < labelCount; i++) {
                Label label = labelAt(i);
                if (label != null) {
                    sum += label.river.costOf(label.start);
                }
            }
            return sum;
        }

        int cellsOfLabels(Sheet sheet) {
            sheet.clear();
            for (int i = 0; i < labelCount; i++) {
                Label label = labelAt(i);
                if (label != null) {
                    label.markArea(sheet);
                }
            }
            return sheet.marked;
        }

        int riversWithoutLabel() {
            int bits = 0;
            for (int i = 0; i < riverCount; i++) {
                River river = riverAt(i);
                if (river != null && labelsOf(river) == 0) {
                    bits |= 1 << i;
                }
            }
            return bits;
        }

        /** The letter that is seen on a cell, or NONE. */
        int signOn(int column, int row) {
            int seen = NONE;
            int seenRank = 0;
            for (int i = 0; i < labelCount; i++) {
                Label label = labelAt(i);
                if (label != null && label.river.rank > seenRank) {
                    int sign = label.river.letterOn(label.start, column, row);
                    if (sign != NONE) {
                        seen = sign;
                        seenRank = label.river.rank;
                    }
                }
            }
            return seen;
        }
    }

    /**
     * Tells which labels may stand and where. Letters, towns and halos are compared by the distances of
     * cells: areas that meet anywhere meet on the map, too, because what they surround lies on it.
     */
    private static final class Judge {
        /** For each place of the river looked at, the highest rank of what a letter's area meets there. */
        private final int[] rivals = new int[MOST_PLACES];

        /** The first reason against a label, beside all labels but the one with the number except. */
        int reasonAgainst(Board board, River river, int start, int except) {
            if (start > river.lastStart(river.letters)) {
                return 1;
            }
            if (isCrowded(board, river, start, except)) {
                return 2;
            }
            int labelRank = 0;
            for (int place = start; place < start + river.letters; place++) {
                if (townRankAt(board, river, place) >= river.rank) {
                    return 3;
                }
                labelRank = Math.max(labelRank, labelRankAt(board, river, place));
            }
            return labelRank >= river.rank ? 4 : NO_REASON;
        }

        /** Whether another label of the river stands too near to this start. */
        private boolean isCrowded(Board board, River river, int start, int except) {
            for (int i = 0; i < board.labelCount; i++) {
                Label label = board.labelAt(i);
                if (label != null && i != except && label.river.number == river.number
                        && Math.abs(label.start - start) < river.letters + board.gap) {
                    return true;
                }
            }
            return false;
        }

        /** The highest rank of the towns that the area of a letter at this place meets, or 0. */
        private int townRankAt(Board board, River river, int place) {
            int highest = 0;
            for (int i = 0; i < board.townCount; i++) {
                Town town = board.townAt(i);
                if (town != null && town.rank > highest
                        && town.isNear(river.columnAt(place), river.rowAt(place), river.halo)) {
                    highest = town.rank;
                }
            }
            return highest;
        }

        /** The highest rank of the other rivers whose labels the area of a letter at this place meets, or 0. */
        private int labelRankAt(Board board, River river, int place) {
            int highest = 0;
            int column = river.columnAt(place);
            int row = river.rowAt(place);
            for (int i = 0; i < board.labelCount; i++) {
                Label label = board.labelAt(i);
                if (label != null && label.river.number != river.number && label.river.rank > highest
                        && label.river.hasLetterNear(label.start, column, row, river.halo + label.river.halo)) {
                    highest = label.river.rank;
                }
            }
            return highest;
        }

        /** Notes the rivals of all places once, since the stretches of a river share most of their places. */
        private void noteRivals(Board board, River river) {
            for (int place = 0; place <= river.moves && place < MOST_PLACES; place++) {
                rivals[place] = Math.max(townRankAt(board, river, place), labelRankAt(board, river, place));
            }
        }

        /** The highest rank noted for a place of a label, or 0. */
        private int rivalRank(River river, int start) {
            int highest = 0;
            for (int place = start; place < start + river.letters; place++) {
                if (isPlaceNumber(place)) {
                    highest = Math.max(highest, rivals[place]);
                }
            }
            return highest;
        }

        /** The best start of a river, or NONE. */
        int bestStart(Board board, River river) {
            noteRivals(board, river);
            return bestStartAsNoted(board, river);
        }

        private int bestStartAsNoted(Board board, River river) {
            int found = NONE;
            int least = 0;
            for (int start = 0; start <= river.lastStart(river.letters); start++) {
                int cost = river.costOf(start);
                if ((found == NONE || cost < least) && rivalRank(river, start) < river.rank
                        && !isCrowded(board, river, start, NO_LABEL)) {
                    found = start;
                    least = cost;
                }
            }
            return found;
        }

        /** The smallest rank with which one more label of a river may stand, or NONE. */
        int leastRank(Board board, River river) {
            noteRivals(board, river);
            int least = HIGHEST_RANK + 1;
            for (int start = 0; start <= river.lastStart(river.letters); start++) {
                if (!isCrowded(board, river, start, NO_LABEL)) {
                    least = Math.min(least, rivalRank(river, start) + 1);
                }
            }
            return isRank(least) ? least : NONE;
        }

        /** Sets labels of all rivers on a board that has none. */
        void letterAll(Board board, int repeats) {
            for (int rank = HIGHEST_RANK; rank >= 1; rank--) {
                for (int i = 0; i < board.riverCount; i++) {
                    River river = board.riverAt(i);
                    if (river != null && river.rank == rank) {
                        letterRiver(board, river, repeats);
                    }
                }
            }
        }

        private void letterRiver(Board board, River river, int repeats) {
            noteRivals(board, river);
            for (int i = 0; i < repeats; i++) {
                int start = bestStartAsNoted(board, river);
                if (start == NONE || !board.addLabel(river, start)) {
                    return;
                }
            }
        }

        private boolean isMisfit(Board board, int number) {
            Label label = board.labelAt(number);
            return label != null && reasonAgainst(board, label.river, label.start, number) != NO_REASON;
        }

        /** The number of labels that may not stand any more, each one beside all others. */
        int misfits(Board board) {
            int sum = 0;
            for (int i = 0; i < board.labelCount; i++) {
                if (isMisfit(board, i)) {
                    sum++;
                }
            }
            return sum;
        }

        /** Removes the labels that may not stand beside those left; their number. */
        int dropMisfits(Board board) {
            int before = board.labelCount;
            int kept = 0;
            for (int i = 0; i < before; i++) {
                if (isMisfit(board, kept)) {
                    board.dropLabel(kept);
                } else {
                    kept++;
                }
            }
            return before - board.labelCount;
        }
    }

    /** The present state, the earlier ones for undo(), and a draft: a failing action just leaves it. */
    private static final class History {
        int size;
        private final Board[] kept = new Board[MOST_STATES];
        private Board present = new Board();
        private Board draft = new Board();

        History() {
            for (int i = 0; i < MOST_STATES; i++) {
                kept[i] = new Board();
            }
        }

        Board present() {
            return present;
        }

        /** A copy of the present state, for an action to change. */
        Board newDraft() {
            draft.copyFrom(present);
            return draft;
        }

        /** Makes the draft the present state and keeps the one before it. */
        void enterDraft() {
            if (size >= MOST_STATES) {
                dropOldest();
            }
            if (!within(size, 0, MOST_STATES - 1)) {
                return;
            }
            Board free = kept[size];
            if (free != null) {
                kept[size] = present;
                present = draft;
                draft = free;
                size++;
            }
        }

        private void dropOldest() {
            Board oldest = kept[0];
            for (int i = 1; i < MOST_STATES; i++) {
                kept[i - 1] = kept[i];
            }
            kept[MOST_STATES - 1] = oldest;
            size = MOST_STATES - 1;
        }

        /** Restores the latest state; the number of those left, or ILLEGAL_STATE if there is none. */
        int stepBack() {
            if (!within(size, 1, MOST_STATES)) {
                return ILLEGAL_STATE;
            }
            Board latest = kept[size - 1];
            if (latest == null) {
                return ILLEGAL_STATE;
            }
            kept[size - 1] = present;
            present = latest;
            size--;
            return size;
        }
    }

    /** The text that load() reads. */
    private static final class Text {
        int length;
        private final int[] signs = new int[MOST_SIGNS];

        /** Adds a sign; false if there is no room. */
        boolean write(int sign) {
            if (!within(length, 0, MOST_SIGNS - 1)) {
                return false;
            }
            signs[length] = sign;
            length++;
            return true;
        }

        /** Makes the text empty; its length before. */
        int wipe() {
            int previous = length;
            length = 0;
            return previous;
        }

        /** The sign at an offset; 0 behind the end, since no sign of a text is 0. */
        int signAt(int offset) {
            return within(offset, 0, length - 1) ? signs[offset] : 0;
        }
    }

    /** Holds the text and reads its items. After the first token that is refused it stays at that token. */
    private static final class Reader {
        private static final int END = 0;
        private static final int LETTERS = 1;
        private static final int DIGITS = 2;
        private static final int OTHER = 3;

        final Text text = new Text();
        private int tokenStart;
        private int tokenEnd;
        private int tokenKind;
        private boolean refused;

        /** Adds the rivers and towns of the text; their number, or -1000 minus the error position. */
        int readInto(Board board) {
            tokenEnd = 0;
            refused = false;
            for (int items = 0; items <= text.length && !refused; items++) {
                nextToken();
                if (tokenKind == END) {
                    return items;
                }
                if (tokenIs(RIVER_WORD)) {
                    readRiver(board.nextRiver());
                } else if (tokenIs(TOWN_WORD)) {
                    readTown(board.nextTown());
                } else {
                    refused = true;
                }
            }
            return READING_ERROR - tokenStart;
        }

        private void readRiver(River added) {
            if (added == null) {
                refused = true;
                return;
            }
            readName(added);
            int x = readNumber(0, COLUMNS - 1);
            int y = readNumber(0, ROWS - 1);
            int rank = readNumber(1, HIGHEST_RANK);
            int halo = readNumber(0, MOST_HALO);
            added.begin(x, y, rank, halo);
            readMoves(added);
            readSemicolon();
        }

        private void readTown(Town added) {
            if (added == null) {
                refused = true;
                return;
            }
            int x = readNumber(0, COLUMNS - 1);
            int y = readNumber(0, ROWS - 1);
            int width = readNumber(1, Math.min(MOST_WIDTH, COLUMNS - x));
            int height = readNumber(1, Math.min(MOST_HEIGHT, ROWS - y));
            int rank = readNumber(1, HIGHEST_RANK);
            added.build(x, y, width, height, rank);
            readSemicolon();
        }

        private void readName(River added) {
            nextToken();
            refuseUnless(tokenKind == LETTERS && tokenEnd - tokenStart <= MOST_LETTERS);
            for (int i = tokenStart; i < tokenEnd && !refused; i++) {
                added.addLetter(text.signAt(i));
            }
        }

        private void readMoves(River added) {
            nextToken();
            refuseUnless(tokenKind == DIGITS);
            for (int i = tokenStart; i < tokenEnd && !refused; i++) {
                refuseUnless(added.lengthen(text.signAt(i) - '0'));
            }
        }

        /** The next token as a number; the least one allowed if it is refused. */
        private int readNumber(int least, int most) {
            nextToken();
            int digits = tokenEnd - tokenStart;
            boolean zeroAhead = digits > 1 && text.signAt(tokenStart) == '0';
            refuseUnless(tokenKind == DIGITS && digits <= 2 && !zeroAhead);
            int value = 0;
            for (int i = tokenStart; i < tokenEnd && !refused; i++) {
                value = 10 * value + text.signAt(i) - '0';
            }
            refuseUnless(within(value, least, most));
            return refused ? least : value;
        }

        private void readSemicolon() {
            nextToken();
            refuseUnless(text.signAt(tokenStart) == ';');
        }

        private void refuseUnless(boolean allowed) {
            refused = refused || !allowed;
        }

        private void nextToken() {
            if (refused) {
                return;
            }
            tokenStart = tokenEnd;
            while (tokenStart < text.length && text.signAt(tokenStart) == ' ') {
                tokenStart++;
            }
            tokenKind = kindOf(text.signAt(tokenStart));
            tokenEnd = Math.min(tokenStart + 1, text.length);
            if (tokenKind == LETTERS || tokenKind == DIGITS) {
                while (tokenEnd < text.length && kindOf(text.signAt(tokenEnd)) == tokenKind) {
                    tokenEnd++;
                }
            }
        }

        private static int kindOf(int sign) {
            if (sign == 0) {
                return END;
            }
            if (within(sign, 'a', 'z')) {
                return LETTERS;
            }
            return within(sign, '0', '9') ? DIGITS : OTHER;
        }

        private boolean tokenIs(String word) {
            if (tokenEnd - tokenStart != word.length()) {
                return false;
            }
            for (int i = 0; i < word.length(); i++) {
                if (text.signAt(tokenStart + i) != word.charAt(i)) {
                    return false;
                }
            }
            return true;
        }
    }
}
