/** The bounds that the section 'Names' of the document names. */
final class BoundsOfNames extends Bounds {
    private static final String NAMES = "Names";

    BoundsOfNames(Due due, Document document) {
        super(due, document);
    }

    @Override
    void tell() {
        successivePlaces();
        turnedLabels();
        writtenLabels();
        labelsBetweenTheSameCell();
        turns();
        bends();
        costs();
        costsOfTheLongestName();
        areas();
        areasAtTheSidesOfTheMap();
        areasOfTowns();
    }

    private void successivePlaces() {
        Story name = story(NAMES, "A label of a river whose name has n letters stands on n successive places of it, "
            + "from its start s to s + n - 1.");
        name.call("addRiver 3 30 20 5 0", 0).flow(0, "0000");
        name.looks("reason 0 2", 0).looks("reason 0 3", 1).refuses("set 0 3", STATE);
        name.branch().call("set 0 0", 0).looks("written 29 20", NONE).looks("written 30 20", 'a')
            .looks("written 32 20", 'c').looks("written 33 20", NONE);
        name.branch().call("set 0 2", 0).looks("written 31 20", NONE).looks("written 32 20", 'a')
            .looks("written 34 20", 'c').looks("written 35 20", NONE);
        Story longest = story(NAMES, "A label of a river whose name has n letters stands on n successive places of it, "
            + "from its start s to s + n - 1.");
        longest.call("addRiver 12 10 20 5 0", 0).flow(0, "0000000000").refuses("set 0 0", STATE);
        longest.flow(0, "0").refuses("set 0 1", STATE).call("set 0 0", 0);
        longest.looks("written 10 20", 'a').looks("written 21 20", 'l').looks("label 0 5", 12);
        sixty(NAMES, "from its start s to s + n - 1.", 1).call("set 0 60", 0).looks("label 0 5", 1);
        sixty(NAMES, "from its start s to s + n - 1.", 2).refuses("set 0 60", STATE).call("set 0 59", 0);
    }

    private Story named(String words, int letters, String moves) {
        return story(NAMES, words).call("addRiver " + letters + " 30 20 5 0", 0).flow(0, moves).call("set 0 0", 0);
    }

    private void turned(int letters, String moves, int want) {
        named("Its letters stand at these places in the order of the name; but if the cell of the last place lies to "
            + "the left of that of the first place, or straight above it, the label is turned:", letters, moves)
            .looks("label 0 4", want);
    }

    private void turnedLabels() {
        turned(2, "0", 0);
        turned(2, "1", 0);
        turned(2, "2", 0);
        turned(2, "3", 1);
        turned(2, "4", 1);
        turned(2, "5", 1);
        turned(2, "6", 1);
        turned(2, "7", 0);
        turned(12, "66666666666", 1);
        turned(12, "22222222222", 0);
        turned(12, "76666666666", 0);
        turned(12, "56666666666", 1);
        turned(12, "12222222222", 0);
        turned(12, "32222222222", 1);
        turned(12, "44444000000", 0);
        turned(12, "44444400000", 1);
        turned(4, "576", 1);
        turned(4, "132", 0);
        turned(4, "404", 1);
        turned(4, "040", 0);
    }

    private void writtenLabels() {
        String words = "its first letter stands at the last place, and so on.";
        named(words, 3, "44").looks("written 28 20", 'a').looks("written 29 20", 'b').looks("written 30 20", 'c');
        named(words, 3, "66").looks("written 30 18", 'a').looks("written 30 19", 'b').looks("written 30 20", 'c');
        named(words, 3, "22").looks("written 30 20", 'a').looks("written 30 21", 'b').looks("written 30 22", 'c');
        named(words, 2, "3").looks("written 29 21", 'a').looks("written 30 20", 'b');
        named(words, 12, "44444444444").looks("written 19 20", 'a').looks("written 30 20", 'l');
        Story twice = named(words, 4, "404");
        twice.looks("written 30 20", 'd').looks("written 29 20", 'c');
    }

    private void labelsBetweenTheSameCell() {
        String words = "(If both are the same cell, it is not turned.)";
        named(words, 1, "4").looks("label 0 4", 0).looks("written 30 20", 'a');
        named(words, 1, "").looks("label 0 4", 0);
        named(words, 3, "40").looks("label 0 4", 0).looks("written 30 20", 'a').looks("written 29 20", 'b');
        named(words, 3, "62").looks("label 0 4", 0).looks("written 30 19", 'b');
        named(words, 5, "6420").looks("label 0 4", 0).looks("written 29 19", 'c');
        named(words, 2, "40").looks("label 0 4", 1).looks("written 30 20", 'b');
        named(words, 4, "400").looks("label 0 4", 0);
    }

    /** All pairs of directions, those that wrap around among them. */
    private void turns() {
        int[] due = {0, 1, 2, 3, 4, 3, 2, 1};
        Story name = story(NAMES, "The turn of two successive moves is the difference of their directions, or 8 minus "
            + "this difference, if that is less.");
        name.call("addRiver 3 30 20 5 0", 0);
        for (int first = 0; first < 8; first++) {
            for (int second = 0; second < 8; second++) {
                int want = due[Math.abs(first - second)];
                name.branch().flow(0, "" + first + second).looks("bend 0 0 3", want).looks("river 0 6", want);
            }
        }
    }

    private void bends() {
        Story name = story(NAMES, "The bend of a stretch of n successive places is the sum of the turns of all "
            + "successive moves between them (0 with at most 2 places).");
        name.call("addRiver 1 30 20 5 0", 0).looks("bend 0 0 1", 0).looks("river 0 6", 0);
        name.flow(0, "04").looks("bend 0 0 1", 0).looks("bend 0 2 1", 0).looks("bend 0 0 2", 0)
            .looks("bend 0 1 2", 0);
        name.looks("bend 0 0 3", 4).flow(0, "002");
        name.looks("bend 0 1 3", 4).looks("bend 0 2 3", 0).looks("bend 0 3 3", 2);
        name.looks("bend 0 1 4", 4).looks("bend 0 2 4", 2).looks("bend 0 1 5", 6).looks("bend 0 0 6", 10);
        for (int start = 0; start <= 5; start++) {
            name.looks("bend 0 " + start + " 1", 0).looks("bend 0 " + start + " 2", start < 5 ? 0 : NONE);
        }
        sixty(NAMES, "(0 with at most 2 places).", 1).looks("bend 0 0 61", 59 * 4).looks("bend 0 1 60", 58 * 4)
            .looks("bend 0 59 2", 0).looks("bend 0 60 1", 0);
    }

    private void cost(Story name, int start, int want) {
        name.branch().call("set 0 " + start, 0).looks("label 0 2", want).looks("count 4", want);
    }

    private void costs() {
        Story name = story(NAMES, "The cost of a label with the start s is 10 * (its bend) + |2 * s + n - 1 - m|.");
        name.call("addRiver 3 10 20 5 0", 0).flow(0, "00");
        cost(name, 0, 0);
        name.flow(0, "0000000");
        cost(name, 0, 7);
        cost(name, 3, 1);
        cost(name, 4, 1);
        cost(name, 7, 7);
        name.flow(0, "2");
        cost(name, 0, 8);
        cost(name, 4, 0);
        cost(name, 7, 6);
        cost(name, 8, 20 + 8);
        Story point = story(NAMES, "The cost of a label with the start s is 10 * (its bend) + |2 * s + n - 1 - m|.");
        point.call("addRiver 1 10 20 5 0", 0);
        cost(point, 0, 0);
        point.flow(0, "4");
        cost(point, 0, 1);
        cost(point, 1, 1);
    }

    private void costsOfTheLongestName() {
        String words = "The cost of a label with the start s is 10 * (its bend) + |2 * s + n - 1 - m|.";
        Story name = sixty(NAMES, words, 12);
        cost(name, 0, 400 + 49);
        cost(name, 24, 400 + 1);
        cost(name, 25, 400 + 1);
        cost(name, 49, 400 + 49);
        Story letter = sixty(NAMES, words, 1);
        cost(letter, 0, 60);
        cost(letter, 30, 0);
        cost(letter, 60, 60);
    }

    private void areas() {
        Story area = story(NAMES, "The area of a label consists of all cells on the map whose column and row differ by "
            + "at most the halo of its river from those of a cell on which a letter stands.");
        for (int halo = 0; halo <= 2; halo++) {
            for (int side = 0; side < 8; side++) {
                Story one = area.branch().call("addRiver 1 30 20 5 " + halo, 0).call("set 0 0", 0);
                int right = new int[] {1, 1, 0, -1, -1, -1, 0, 1}[side];
                int down = new int[] {0, 1, 1, 1, 0, -1, -1, -1}[side];
                for (int reach = halo; reach <= halo + 1; reach++) {
                    int want = reach == halo ? 1 : 0;
                    one.branch().call("addTown " + (30 + right * reach) + " " + (20 + down * reach) + " 1 1 1", 0)
                        .looks("label 0 7", want).looks("town 0 5", want);
                }
            }
        }
        Story knee = area.branch().call("addRiver 3 30 20 5 1", 0).flow(0, "02").call("set 0 0", 0);
        knee.looks("label 0 5", 15).call("addTown 29 22 1 1 1", 0).looks("town 0 5", 0);
        knee.call("addTown 30 22 1 1 1", 1).looks("town 1 5", 1);
        Story twice = area.branch().call("addRiver 3 30 20 5 0", 0).flow(0, "04").call("set 0 0", 0);
        twice.looks("label 0 5", 2).looks("count 7", 2);
    }

    private void areaAt(Story area, int x, int y, int... cells) {
        for (int halo = 0; halo <= 2; halo++) {
            area.branch().call("addRiver 1 " + x + " " + y + " 5 " + halo, 0).call("set 0 0", 0)
                .looks("label 0 5", cells[halo]).looks("count 7", cells[halo]);
        }
    }

    private void areasAtTheSidesOfTheMap() {
        Story area = story(NAMES, "The area of a label consists of all cells on the map");
        areaAt(area, 30, 20, 1, 9, 25);
        for (int x : new int[] {0, 59}) {
            areaAt(area, x, 20, 1, 6, 15);
            areaAt(area, x, 0, 1, 4, 9);
            areaAt(area, x, 39, 1, 4, 9);
            areaAt(area, Math.abs(x - 1), 20, 1, 9, 20);
        }
        areaAt(area, 30, 0, 1, 6, 15);
        areaAt(area, 30, 39, 1, 6, 15);
        areaAt(area, 30, 1, 1, 9, 20);
        areaAt(area, 30, 38, 1, 9, 20);
        areaAt(area, 1, 38, 1, 9, 16);
        areaAt(area, 2, 37, 1, 9, 25);
        area.branch().call("addRiver 12 0 0 5 2", 0).flow(0, "00000000000").call("set 0 0", 0)
            .looks("label 0 5", 14 * 3);
        area.branch().call("addRiver 12 48 39 5 2", 0).flow(0, "00000000000").call("set 0 0", 0)
            .looks("label 0 5", 14 * 3);
    }

    private void areasOfTowns() {
        int[][] inside = {{10, 10}, {21, 10}, {10, 12}, {21, 12}};
        int[][] outside = {{9, 10}, {22, 10}, {10, 9}, {21, 13}, {9, 13}, {22, 9}};
        for (int[] cell : inside) {
            townBeside(cell, 1);
        }
        for (int[] cell : outside) {
            townBeside(cell, 0);
        }
    }

    private void townBeside(int[] cell, int want) {
        Story town = story(NAMES, "The area of a town consists of its cells.");
        town.call("addTown 10 10 12 3 1", 0).call("addRiver 1 " + cell[0] + " " + cell[1] + " 5 0", 0);
        town.call("set 0 0", 0).looks("town 0 5", want).looks("label 0 7", want);
        town.call("setTownRank 0 9", 1).looks("label 0 6", 3 * want);
    }
}
