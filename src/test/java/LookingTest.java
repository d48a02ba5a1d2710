/** Promises 17 to 23: looking at the map, its rivers, towns and labels. */
public final class LookingTest {
    private static final int WRONG = RiverNames.INVALID_ARGUMENT;
    private static final int NONE = RiverNames.NONE;
    private static final Due due = new Due("LookingTest");

    public static void main(String[] args) {
        promise17Count();
        promise17CountCosts();
        promise18River();
        promise19Cell();
        promise20Letter();
        promise21Town();
        promise22Label();
        promise22LabelTurned();
        promise22LabelArea();
        promise22LabelReasonAndTowns();
        promise23Written();
        promise23WrittenByRank();
        looksAreNoActions();
        due.end();
    }

    private static void promise17Count() {
        RiverNames x = due.named("abc", 10, 10, 5, 1, "0000000000");
        x.addRiver(2, 10, 20, 4, 0);
        x.addTown(0, 0, 2, 2, 5);
        x.addTown(1, 1, 2, 2, 5);
        x.addTown(2, 2, 2, 2, 5);
        x.setGap(0);
        due.is("count(6) without labels", x.count(6), 3);
        x.set(0, 0);
        x.set(0, 3);
        x.append('a');
        due.is("count(0)", x.count(0), 2);
        due.is("count(1)", x.count(1), 3);
        due.is("count(2)", x.count(2), 2);
        due.is("count(3)", x.count(3), 0);
        due.is("count(5)", x.count(5), 0);
        due.is("count(6)", x.count(6), 2);
        due.is("count(7) of areas that share cells", x.count(7), 8 * 3);
        due.is("count(7) again", x.count(7), 8 * 3);
        due.is("label(0, 5) behind it", x.label(0, 5), 5 * 3);
        due.is("river(1, 5) behind it", x.river(1, 5), 1);
        due.is("count(7) behind all", x.count(7), 8 * 3);
        due.is("count(8)", x.count(8), 5);
        due.is("count(9)", x.count(9), 1);
        due.is("count(10)", x.count(10), WRONG);
        due.is("count(-1)", x.count(-1), WRONG);
        x.setGap(1);
        due.is("count(5) in a wider gap", x.count(5), 2);
    }

    private static void promise17CountCosts() {
        RiverNames x = due.named("abc", 10, 10, 5, 0, "00000000120");
        x.setGap(0);
        x.set(0, 0);
        due.is("count(4)", x.count(4), 9);
        x.set(0, 9);
        due.is("label(1, 2)", x.label(1, 2), 20 + 9);
        due.is("count(4) of two", x.count(4), 9 + 29);
        x.flow(0, 0);
        due.is("count(4) behind a flow", x.count(4), 10 + 28);
    }

    private static void promise18River() {
        RiverNames x = due.named("abcde", 10, 10, 7, 2, "0246");
        int[] properties = {7, 2, 5, 4, 0, 4, 6};
        for (int what = 0; what < properties.length; what++) {
            due.is("river(0, " + what + ")", x.river(0, what), properties[what]);
        }
        due.is("river(0, 7)", x.river(0, 7), WRONG);
        due.is("river(0, -1)", x.river(0, -1), WRONG);
        due.is("river(1, 0)", x.river(1, 0), WRONG);
        due.is("river(-1, 0)", x.river(-1, 0), WRONG);
        due.is("set(0, 0)", x.set(0, 0), 0);
        due.is("river(0, 4)", x.river(0, 4), 1);
        x.addRiver(1, 10, 10, 1, 0);
        due.is("river(1, 4)", x.river(1, 4), 0);
        due.is("river(1, 5) of one place", x.river(1, 5), 1);
        due.is("river(1, 6) of one place", x.river(1, 6), 0);
        RiverNames y = due.named("a", 10, 10, 7, 2, "0704350");
        due.is("turns 1 + 1 + 4 + 1 + 2 + 3", y.river(0, 6), 12);
        due.is("different cells", y.river(0, 5), 6);
    }

    private static void promise19Cell() {
        RiverNames x = due.named("a", 58, 0, 1, 0, "123");
        int[] cells = {5800, 5901, 5902, 5803};
        for (int place = 0; place < cells.length; place++) {
            due.is("cell(0, " + place + ")", x.cell(0, place), cells[place]);
        }
        due.is("cell(0, 4)", x.cell(0, 4), NONE);
        due.is("cell(0, 60)", x.cell(0, 60), NONE);
        due.is("cell(0, 61)", x.cell(0, 61), WRONG);
        due.is("cell(0, -1)", x.cell(0, -1), WRONG);
        due.is("cell(1, 0)", x.cell(1, 0), WRONG);
        due.is("cell(-1, 0)", x.cell(-1, 0), WRONG);
    }

    private static void promise20Letter() {
        RiverNames x = due.named("rhine", 0, 0, 1, 0, "0");
        for (int i = 0; i < 5; i++) {
            due.is("letter(0, " + i + ")", x.letter(0, i), "rhine".charAt(i));
        }
        due.is("letter(0, 5)", x.letter(0, 5), NONE);
        due.is("letter(0, 2147483647)", x.letter(0, Integer.MAX_VALUE), NONE);
        due.is("letter(0, -1)", x.letter(0, -1), WRONG);
        due.is("letter(1, 0)", x.letter(1, 0), WRONG);
        due.is("letter(-1, 99)", x.letter(-1, 99), WRONG);
    }

    private static void promise21Town() {
        RiverNames x = due.named("ab", 10, 10, 9, 1, "0000000000");
        x.addTown(12, 11, 12, 3, 4);
        int[] properties = {12, 11, 12, 3, 4, 0};
        for (int what = 0; what < properties.length; what++) {
            due.is("town(0, " + what + ")", x.town(0, what), properties[what]);
        }
        due.is("town(0, 6)", x.town(0, 6), WRONG);
        due.is("town(0, -1)", x.town(0, -1), WRONG);
        due.is("town(1, 0)", x.town(1, 0), WRONG);
        due.is("town(-1, 0)", x.town(-1, 0), WRONG);
        x.setGap(0);
        x.set(0, 0);
        due.is("town(0, 5) touched by a halo", x.town(0, 5), 1);
        x.set(0, 2);
        x.set(0, 9);
        due.is("town(0, 5) of three labels", x.town(0, 5), 3);
        x.setHalo(0, 0);
        due.is("town(0, 5) without halo", x.town(0, 5), 0);
        x.setHalo(0, 1);
        x.addTown(8, 8, 1, 3, 4);
        due.is("town(1, 5) beside a halo", x.town(1, 5), 0);
        x.addTown(8, 8, 2, 1, 4);
        due.is("town(2, 5) above a halo", x.town(2, 5), 0);
        x.addTown(8, 7, 2, 3, 4);
        due.is("town(3, 5) at the corner of a halo", x.town(3, 5), 1);
        x.addTown(22, 10, 1, 1, 4);
        due.is("town(4, 5) right of a halo", x.town(4, 5), 0);
        x.addTown(21, 9, 1, 1, 4);
        due.is("town(5, 5) at the other corner of a halo", x.town(5, 5), 1);
        promise21TownBesideLetters();
    }

    private static void promise21TownBesideLetters() {
        RiverNames x = due.named("ab", 10, 10, 9, 0, "0000000000");
        x.set(0, 4);
        for (int i = 0; i < 4; i++) {
            x.addTown(13 + i, 10, 1, 1, 5);
            due.is("town(" + i + ", 5) along the river", x.town(i, 5), i == 1 || i == 2 ? 1 : 0);
        }
        due.is("label(0, 7)", x.label(0, 7), 2);
        due.is("label(0, 6)", x.label(0, 6), 0);
    }

    private static void promise22Label() {
        RiverNames x = due.named("abcd", 10, 10, 5, 0, "0012100");
        due.is("label(0, 0) of none", x.label(0, 0), WRONG);
        due.is("set(0, 1)", x.set(0, 1), 0);
        int[] properties = {0, 1, 22, 2, 0, 4, 0, 0};
        for (int what = 0; what < properties.length; what++) {
            due.is("label(0, " + what + ")", x.label(0, what), properties[what]);
        }
        due.is("label(0, 8)", x.label(0, 8), WRONG);
        due.is("label(0, -1)", x.label(0, -1), WRONG);
        due.is("label(1, 0)", x.label(1, 0), WRONG);
        due.is("label(-1, 0)", x.label(-1, 0), WRONG);
        x.addRiver(1, 40, 30, 5, 0);
        x.set(1, 0);
        due.is("label(1, 0)", x.label(1, 0), 1);
        due.is("label(1, 2)", x.label(1, 2), 0);
    }

    private static void turned(String name, String moves, int want) {
        RiverNames x = due.named(name, 20, 20, 5, 0, moves);
        due.is("set(0, 0)", x.set(0, 0), 0);
        due.is("label(0, 4) of " + name + " on " + moves, x.label(0, 4), want);
    }

    private static void promise22LabelTurned() {
        turned("abc", "00", 0);
        turned("abc", "11", 0);
        turned("abc", "22", 0);
        turned("abc", "33", 1);
        turned("abc", "44", 1);
        turned("abc", "55", 1);
        turned("abc", "66", 1);
        turned("abc", "77", 0);
        turned("abc", "04", 0);
        turned("abcde", "0246", 0);
        turned("abc", "35", 1);
        turned("abc", "75", 1);
        turned("abc", "13", 0);
        turned("ab", "04", 0);
        turned("a", "4", 0);
    }

    private static void promise22LabelArea() {
        RiverNames x = new RiverNames();
        x.addRiver(1, 0, 0, 5, 2);
        x.addRiver(1, 59, 39, 5, 2);
        x.addRiver(1, 30, 20, 5, 2);
        x.addRiver(3, 30, 30, 5, 1);
        Due.flow(x, 3, "04");
        x.addRiver(3, 45, 30, 5, 1);
        Due.flow(x, 4, "11");
        for (int river = 0; river < 5; river++) {
            due.is("set(" + river + ", 0)", x.set(river, 0), river);
        }
        due.is("label(0, 5) in the corner", x.label(0, 5), 9);
        due.is("label(1, 5) in the corner", x.label(1, 5), 9);
        due.is("label(2, 5)", x.label(2, 5), 25);
        due.is("label(3, 5) forth and back", x.label(3, 5), 12);
        due.is("label(4, 5) aslant", x.label(4, 5), 19);
        due.is("count(7)", x.count(7), 9 + 9 + 25 + 12 + 19);
    }

    private static void promise22LabelReasonAndTowns() {
        RiverNames x = due.named("ab", 10, 10, 5, 0, "0000000000");
        x.setGap(0);
        x.set(0, 0);
        x.set(0, 2);
        x.addTown(11, 9, 1, 2, 4);
        due.is("label(0, 6) over a lower town", x.label(0, 6), 0);
        due.is("label(0, 7)", x.label(0, 7), 1);
        x.addTown(10, 10, 1, 1, 5);
        due.is("label(0, 6) over an equal town", x.label(0, 6), 3);
        due.is("label(0, 7) of two", x.label(0, 7), 2);
        due.is("label(1, 6)", x.label(1, 6), 0);
        due.is("label(1, 7)", x.label(1, 7), 0);
        x.setGap(1);
        due.is("label(0, 6) too near, too", x.label(0, 6), 2);
        due.is("label(1, 6) too near", x.label(1, 6), 2);
        x.setGap(0);
        x.addRiver(1, 12, 10, 6, 0);
        x.set(1, 0);
        due.is("label(1, 6) under a higher river", x.label(1, 6), 4);
        due.is("label(2, 6)", x.label(2, 6), 0);
        x.setRank(1, 5);
        due.is("label(1, 6) under an equal river", x.label(1, 6), 4);
        due.is("label(2, 6) under an equal river", x.label(2, 6), 4);
        x.setRank(1, 4);
        due.is("label(1, 6) over a lower river", x.label(1, 6), 0);
        x.addTown(13, 10, 1, 1, 9);
        x.setRank(1, 9);
        due.is("label(1, 6) with both reasons", x.label(1, 6), 3);
        due.is("label(2, 6) above all", x.label(2, 6), 0);
    }

    private static void written(RiverNames x, int column, int row, String letters) {
        for (int i = 0; i < letters.length(); i++) {
            int want = letters.charAt(i) == '.' ? NONE : letters.charAt(i);
            due.is("written(" + (column + i) + ", " + row + ")", x.written(column + i, row), want);
        }
    }

    private static void promise23Written() {
        RiverNames x = due.named("rhine", 10, 10, 5, 1, "000000");
        written(x, 9, 10, ".........");
        x.set(0, 1);
        written(x, 9, 10, "..rhine.");
        written(x, 9, 9, "........");
        RiverNames y = due.named("rhine", 16, 10, 5, 1, "444444");
        y.set(0, 1);
        written(y, 9, 10, "..rhine.");
        RiverNames z = due.named("abc", 10, 10, 5, 0, "04");
        z.set(0, 0);
        written(z, 10, 10, "ab");
        RiverNames t = due.named("abcd", 10, 10, 5, 0, "404");
        t.set(0, 0);
        due.is("label(0, 4)", t.label(0, 4), 1);
        written(t, 9, 10, "cd");
        due.is("written(60, 0)", x.written(60, 0), WRONG);
        due.is("written(0, 40)", x.written(0, 40), WRONG);
        due.is("written(-1, 0)", x.written(-1, 0), WRONG);
        due.is("written(0, -1)", x.written(0, -1), WRONG);
        due.is("written(59, 39)", x.written(59, 39), NONE);
    }

    private static void promise23WrittenByRank() {
        RiverNames x = due.named("abc", 10, 10, 5, 0, "00");
        Due.write(x, "river xyz 8 10 6 0 00;river uv 10 9 7 0 2;");
        due.is("load()", x.load(), 2);
        x.set(0, 0);
        x.set(1, 0);
        x.set(2, 0);
        written(x, 7, 10, ".xyvbc.");
        x.setRank(2, 6);
        written(x, 7, 10, ".xyzbc.");
        x.setRank(0, 6);
        written(x, 7, 10, ".xyabc.");
        x.setRank(2, 1);
        x.setRank(0, 1);
        x.setRank(1, 1);
        written(x, 7, 10, ".xyabc.");
        x.remove(0);
        written(x, 7, 10, ".xyz..");
        due.is("written(10, 9)", x.written(10, 9), 'u');
    }

    private static void looksAreNoActions() {
        RiverNames x = due.named("abc", 10, 10, 5, 0, "00000");
        x.set(0, 1);
        x.count(5);
        x.count(7);
        x.river(0, 5);
        x.cell(0, 1);
        x.letter(0, 1);
        x.town(0, 5);
        x.label(0, 6);
        x.written(10, 10);
        x.bend(0, 0, 3);
        x.straightest(0, 3);
        x.reason(0, 0);
        x.best(0, 0);
        x.rankFor(0);
        due.is("count(8)", x.count(8), 2);
        due.is("count(2)", x.count(2), 1);
        due.is("label(0, 1)", x.label(0, 1), 1);
        due.is("river(0, 0)", x.river(0, 0), 5);
    }
}
