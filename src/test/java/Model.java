import java.util.ArrayDeque;
import java.util.ArrayList;
import java.util.HashSet;
import java.util.List;
import java.util.Set;

/** The document once more, slow and plain: areas are sets of cells, states are copied whole. */
final class Model {
    private static final int WRONG = -1;
    private static final int STATE = -2;
    private static final int FULL = -3;
    private static final int NONE = -9;

    private record Cell(int x, int y) {
        Cell moved(int direction) {
            int dx = "++0---0+".charAt(direction) == '+' ? 1 : "++0---0+".charAt(direction) == '-' ? -1 : 0;
            int dy = "0+++0---".charAt(direction) == '+' ? 1 : "0+++0---".charAt(direction) == '-' ? -1 : 0;
            return new Cell(x + dx, y + dy);
        }

        boolean exists() {
            return x >= 0 && x <= 59 && y >= 0 && y <= 39;
        }
    }

    private record Stream(String name, int rank, int halo, Cell first, List<Integer> moves) {
        List<Cell> places() {
            List<Cell> all = new ArrayList<>(List.of(first));
            for (int move : moves) {
                all.add(all.get(all.size() - 1).moved(move));
            }
            return all;
        }

        int bend(int start, int places) {
            int sum = 0;
            List<Integer> between = moves.subList(start, start + places - 1);
            for (int i = 1; i < between.size(); i++) {
                int difference = Math.abs(between.get(i) - between.get(i - 1));
                sum += Math.min(difference, 8 - difference);
            }
            return sum;
        }

        int cost(int start) {
            return 10 * bend(start, name.length()) + Math.abs(2 * start + name.length() - 1 - moves.size());
        }

        List<Cell> stretch(int start) {
            return places().subList(start, start + name.length());
        }

        Set<Cell> area(int start) {
            Set<Cell> area = new HashSet<>();
            for (Cell letter : stretch(start)) {
                for (int x = letter.x - halo; x <= letter.x + halo; x++) {
                    for (int y = letter.y - halo; y <= letter.y + halo; y++) {
                        if (new Cell(x, y).exists()) {
                            area.add(new Cell(x, y));
                        }
                    }
                }
            }
            return area;
        }

        boolean turned(int start) {
            Cell head = stretch(start).get(0);
            Cell tail = stretch(start).get(name.length() - 1);
            return tail.x < head.x || tail.x == head.x && tail.y < head.y;
        }
    }

    private record Place(int x, int y, int width, int height, int rank) {
        Set<Cell> area() {
            Set<Cell> area = new HashSet<>();
            for (int i = 0; i < width; i++) {
                for (int j = 0; j < height; j++) {
                    area.add(new Cell(x + i, y + j));
                }
            }
            return area;
        }
    }

    private record Sign(int river, int start) {
    }

    private static final class State {
        List<Stream> rivers = new ArrayList<>();
        List<Place> towns = new ArrayList<>();
        List<Sign> labels = new ArrayList<>();
        int gap = 10;

        State copy() {
            State copy = new State();
            copy.rivers.addAll(rivers);
            copy.towns.addAll(towns);
            copy.labels.addAll(labels);
            copy.gap = gap;
            return copy;
        }

        Set<Cell> area(Sign sign) {
            return rivers.get(sign.river).area(sign.start);
        }
    }

    private State now = new State();
    private final ArrayDeque<State> history = new ArrayDeque<>();
    private final StringBuilder text = new StringBuilder();

    private void record() {
        history.addLast(now.copy());
        if (history.size() > 5) {
            history.removeFirst();
        }
    }

    private static boolean in(int value, int least, int most) {
        return value >= least && value <= most;
    }

    private boolean noRiver(int river) {
        return !in(river, 0, now.rivers.size() - 1);
    }

    private static boolean meet(Set<Cell> one, Set<Cell> other) {
        return one.stream().anyMatch(other::contains);
    }

    /** The reason against a label whose river is taken to have this rank, beside these labels. */
    private static int reason(State state, int river, int start, int rank, List<Sign> others) {
        Stream stream = state.rivers.get(river);
        int n = stream.name.length();
        if (start + n > stream.moves.size() + 1) {
            return 1;
        }
        for (Sign other : others) {
            if (other.river == river && Math.abs(other.start - start) < n + state.gap) {
                return 2;
            }
        }
        Set<Cell> area = stream.area(start);
        for (Place town : state.towns) {
            if (town.rank >= rank && meet(area, town.area())) {
                return 3;
            }
        }
        for (Sign other : others) {
            if (other.river != river && state.rivers.get(other.river).rank >= rank && meet(area, state.area(other))) {
                return 4;
            }
        }
        return 0;
    }

    private static int reason(State state, int river, int start, List<Sign> others) {
        return reason(state, river, start, state.rivers.get(river).rank, others);
    }

    private static int reasonStanding(State state, int label) {
        List<Sign> others = new ArrayList<>(state.labels);
        Sign sign = others.remove(label);
        return reason(state, sign.river, sign.start, others);
    }

    private static int best(State state, int river) {
        int found = NONE;
        for (int start = 60; start >= 0; start--) {
            if (reason(state, river, start, state.labels) == 0
                    && (found == NONE || state.rivers.get(river).cost(start) <= state.rivers.get(river).cost(found))) {
                found = start;
            }
        }
        return found;
    }

    int append(int character) {
        if (!in(character, 1, 255)) {
            return WRONG;
        }
        if (text.length() == 150) {
            return FULL;
        }
        return text.append((char) character).length();
    }

    int clearText() {
        int length = text.length();
        text.setLength(0);
        return length;
    }

    int load() {
        State state = now.copy();
        int answer = new ModelReader(text.toString()).read(
            (name, n, moves) -> addStream(state, name, n, moves),
            n -> state.towns.add(new Place(n[0], n[1], n[2], n[3], n[4])),
            6 - state.rivers.size(), 10 - state.towns.size());
        if (answer >= 0) {
            record();
            now = state;
            text.setLength(0);
        }
        return answer;
    }

    private static boolean addStream(State state, String name, int[] n, String moves) {
        Cell cell = new Cell(n[0], n[1]);
        List<Integer> list = new ArrayList<>();
        for (char move : moves.toCharArray()) {
            if (move > '7' || list.size() == 60) {
                return false;
            }
            cell = cell.moved(move - '0');
            if (!cell.exists()) {
                return false;
            }
            list.add(move - '0');
        }
        return state.rivers.add(new Stream(name, n[2], n[3], new Cell(n[0], n[1]), list));
    }

    int addRiver(int letters, int x, int y, int rank, int halo) {
        if (!in(letters, 1, 12) || !new Cell(x, y).exists() || !in(rank, 1, 9) || !in(halo, 0, 2)) {
            return WRONG;
        }
        if (now.rivers.size() == 6) {
            return FULL;
        }
        record();
        now.rivers.add(new Stream("abcdefghijkl".substring(0, letters), rank, halo, new Cell(x, y), List.of()));
        return now.rivers.size() - 1;
    }

    int addTown(int x, int y, int width, int height, int rank) {
        if (!in(x, 0, 59) || !in(y, 0, 39) || !in(width, 1, 12) || !in(height, 1, 3) || !in(rank, 1, 9)
                || x + width > 60 || y + height > 40) {
            return WRONG;
        }
        if (now.towns.size() == 10) {
            return FULL;
        }
        record();
        now.towns.add(new Place(x, y, width, height, rank));
        return now.towns.size() - 1;
    }

    int flow(int river, int direction) {
        if (noRiver(river) || !in(direction, 0, 7)) {
            return WRONG;
        }
        Stream old = now.rivers.get(river);
        List<Cell> places = old.places();
        if (!places.get(places.size() - 1).moved(direction).exists()) {
            return STATE;
        }
        if (old.moves.size() == 60) {
            return FULL;
        }
        record();
        List<Integer> moves = new ArrayList<>(old.moves);
        moves.add(direction);
        now.rivers.set(river, new Stream(old.name, old.rank, old.halo, old.first, moves));
        return moves.size();
    }

    int setRank(int river, int rank) {
        if (noRiver(river) || !in(rank, 1, 9)) {
            return WRONG;
        }
        record();
        Stream old = now.rivers.get(river);
        now.rivers.set(river, new Stream(old.name, rank, old.halo, old.first, old.moves));
        return old.rank;
    }

    int setHalo(int river, int halo) {
        if (noRiver(river) || !in(halo, 0, 2)) {
            return WRONG;
        }
        record();
        Stream old = now.rivers.get(river);
        now.rivers.set(river, new Stream(old.name, old.rank, halo, old.first, old.moves));
        return old.halo;
    }

    int setTownRank(int town, int rank) {
        if (!in(town, 0, now.towns.size() - 1) || !in(rank, 1, 9)) {
            return WRONG;
        }
        record();
        Place old = now.towns.get(town);
        now.towns.set(town, new Place(old.x, old.y, old.width, old.height, rank));
        return old.rank;
    }

    int setGap(int gap) {
        if (!in(gap, 0, 60)) {
            return WRONG;
        }
        record();
        int old = now.gap;
        now.gap = gap;
        return old;
    }

    int set(int river, int start) {
        if (noRiver(river) || !in(start, 0, 60)) {
            return WRONG;
        }
        if (reason(now, river, start, now.labels) != 0) {
            return STATE;
        }
        if (now.labels.size() == 20) {
            return FULL;
        }
        record();
        now.labels.add(new Sign(river, start));
        return now.labels.size() - 1;
    }

    int remove(int label) {
        if (!in(label, 0, now.labels.size() - 1)) {
            return WRONG;
        }
        record();
        now.labels.remove(label);
        return now.labels.size();
    }

    int place(int repeats) {
        if (!in(repeats, 1, 5)) {
            return WRONG;
        }
        record();
        now.labels.clear();
        List<Integer> order = new ArrayList<>();
        for (int river = 0; river < now.rivers.size(); river++) {
            order.add(river);
        }
        order.sort((a, b) -> now.rivers.get(b).rank - now.rivers.get(a).rank);
        for (int river : order) {
            for (int i = 0; i < repeats && now.labels.size() < 20 && best(now, river) != NONE; i++) {
                now.labels.add(new Sign(river, best(now, river)));
            }
        }
        return now.labels.size();
    }

    int tidy() {
        record();
        int removed = 0;
        int label = 0;
        while (label < now.labels.size()) {
            if (reasonStanding(now, label) != 0) {
                now.labels.remove(label);
                removed++;
            } else {
                label++;
            }
        }
        return removed;
    }

    int undo() {
        if (history.isEmpty()) {
            return STATE;
        }
        now = history.removeLast();
        return history.size();
    }

    int count(int what) {
        if (!in(what, 0, 9)) {
            return WRONG;
        }
        int cost = 0;
        int misfits = 0;
        int bare = (1 << now.rivers.size()) - 1;
        Set<Cell> cells = new HashSet<>();
        for (int i = 0; i < now.labels.size(); i++) {
            Sign sign = now.labels.get(i);
            cost += now.rivers.get(sign.river).cost(sign.start);
            misfits += reasonStanding(now, i) != 0 ? 1 : 0;
            bare &= ~(1 << sign.river);
            cells.addAll(now.area(sign));
        }
        return new int[] {now.rivers.size(), now.towns.size(), now.labels.size(), now.gap, cost, misfits, bare,
            cells.size(), history.size(), text.length()}[what];
    }

    int river(int river, int what) {
        if (noRiver(river) || !in(what, 0, 6)) {
            return WRONG;
        }
        Stream stream = now.rivers.get(river);
        int labels = (int) now.labels.stream().filter(sign -> sign.river == river).count();
        return new int[] {stream.rank, stream.halo, stream.name.length(), stream.moves.size(), labels,
            new HashSet<>(stream.places()).size(), stream.bend(0, stream.moves.size() + 1)}[what];
    }

    int cell(int river, int place) {
        if (noRiver(river) || !in(place, 0, 60)) {
            return WRONG;
        }
        List<Cell> places = now.rivers.get(river).places();
        return place < places.size() ? 100 * places.get(place).x + places.get(place).y : NONE;
    }

    int letter(int river, int index) {
        if (noRiver(river) || index < 0) {
            return WRONG;
        }
        String name = now.rivers.get(river).name;
        return index < name.length() ? name.charAt(index) : NONE;
    }

    int town(int town, int what) {
        if (!in(town, 0, now.towns.size() - 1) || !in(what, 0, 5)) {
            return WRONG;
        }
        Place place = now.towns.get(town);
        int labels = (int) now.labels.stream().filter(sign -> meet(now.area(sign), place.area())).count();
        return new int[] {place.x, place.y, place.width, place.height, place.rank, labels}[what];
    }

    int label(int label, int what) {
        if (!in(label, 0, now.labels.size() - 1) || !in(what, 0, 7)) {
            return WRONG;
        }
        Sign sign = now.labels.get(label);
        Stream stream = now.rivers.get(sign.river);
        int towns = (int) now.towns.stream().filter(town -> meet(now.area(sign), town.area())).count();
        return new int[] {sign.river, sign.start, stream.cost(sign.start), stream.bend(sign.start, stream.name.length()),
            stream.turned(sign.start) ? 1 : 0, now.area(sign).size(), reasonStanding(now, label), towns}[what];
    }

    int written(int x, int y) {
        if (!new Cell(x, y).exists()) {
            return WRONG;
        }
        for (int rank = 9; rank >= 1; rank--) {
            for (Sign sign : now.labels) {
                Stream stream = now.rivers.get(sign.river);
                int index = stream.stretch(sign.start).indexOf(new Cell(x, y));
                if (stream.rank == rank && index >= 0) {
                    String shown = stream.name;
                    if (stream.turned(sign.start)) {
                        shown = new StringBuilder(shown).reverse().toString();
                    }
                    return shown.charAt(index);
                }
            }
        }
        return NONE;
    }

    int bend(int river, int start, int places) {
        if (noRiver(river) || !in(start, 0, 60) || !in(places, 1, 61)) {
            return WRONG;
        }
        Stream stream = now.rivers.get(river);
        return start + places > stream.moves.size() + 1 ? NONE : stream.bend(start, places);
    }

    int straightest(int river, int places) {
        if (noRiver(river) || !in(places, 1, 61)) {
            return WRONG;
        }
        Stream stream = now.rivers.get(river);
        int found = NONE;
        for (int start = stream.moves.size() + 1 - places; start >= 0; start--) {
            if (found == NONE || stream.bend(start, places) <= stream.bend(found, places)) {
                found = start;
            }
        }
        return found;
    }

    int reason(int river, int start) {
        return noRiver(river) || !in(start, 0, 60) ? WRONG : reason(now, river, start, now.labels);
    }

    int best(int river, int what) {
        if (noRiver(river) || !in(what, 0, 1)) {
            return WRONG;
        }
        int start = best(now, river);
        return start == NONE || what == 0 ? start : now.rivers.get(river).cost(start);
    }

    int rankFor(int river) {
        if (noRiver(river)) {
            return WRONG;
        }
        for (int rank = 1; rank <= 9; rank++) {
            for (int start = 0; start <= 60; start++) {
                if (reason(now, river, start, rank, now.labels) == 0) {
                    return rank;
                }
            }
        }
        return NONE;
    }
}
