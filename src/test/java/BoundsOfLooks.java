/** The bounds that the promises 17 to 23 name: looking at the map, its rivers, towns and labels. */
final class BoundsOfLooks extends Bounds {
    BoundsOfLooks(Due due, Document document) {
        super(due, document);
    }

    @Override
    void tell() {
        count();
        countAtTheBounds();
        countCells();
        river();
        cell();
        letter();
        town();
        townBesideLabels();
        label();
        labelAtTheBounds();
        written();
        writtenOfSeveral();
    }

    private void count() {
        Story number = scene("Promise 17", "Returns a number.");
        number.looks("count 0", 2).looks("count 1", 2).looks("count 2", 3).looks("count 3", 2)
            .looks("count 4", 10 + 4 + 10);
        number.looks("count 5", 0).looks("count 6", 0).looks("count 7", 15 + 1 + 15).looks("count 8", 5)
            .looks("count 9", 15);
        scene("Promise 17", "what: 0 the number of rivers, 1 of towns, 2 of labels, 3 the gap, 4 the sum of the costs of "
            + "all labels, 5 the number of labels that may not stand any more (each one beside all others), 6 the set of "
            + "rivers without a label (bit k for river k), 7 the number of cells that lie in the area of a label, 8 the "
            + "states in the history, 9 the length of the text").range("count *", 0, 2, 9, 15);
        Story empty = story("Promise 17", "Returns the number;");
        for (int what = 0; what <= 9; what++) {
            empty.refuses("count " + what, what == 3 ? 10 : 0);
        }
        scene("Promise 17", "INVALID_ARGUMENT if what is out of range.").refuses("count 10", WRONG)
            .refuses("count -1", WRONG);
    }

    private void countAtTheBounds() {
        Story most = story("Promise 17", "6 the set of rivers without a label (bit k for river k),");
        for (int river = 0; river < 6; river++) {
            most.call("addRiver 1 30 " + 6 * river + " 5 0", river).looks("count 6", (2 << river) - 1);
        }
        for (int river = 5; river >= 0; river--) {
            most.call("set " + river + " 0", 5 - river).looks("count 6", (1 << river) - 1);
        }
        most.call("remove 0", 5).looks("count 6", 32).call("remove 4", 4).looks("count 6", 33);
        Story misfits = sixty("Promise 17", "5 the number of labels that may not stand any more (each one beside all "
            + "others),", 1);
        misfits.call("setGap 0", 10);
        for (int i = 0; i < 20; i++) {
            misfits.call("set 0 " + 3 * i, i);
        }
        misfits.looks("count 5", 0).call("setGap 2", 0).looks("count 5", 0).call("setGap 3", 2).looks("count 5", 20);
        Story costs = sixty("Promise 17", "4 the sum of the costs of all labels,", 1).looks("count 4", 0)
            .call("setGap 0", 10);
        int sum = 0;
        for (int i = 0; i < 20; i++) {
            sum += 60 - 2 * i;
            costs.call("set 0 " + i, i).looks("count 4", sum);
        }
        costs.looks("count 4", 820).call("remove 0", 19).looks("count 4", 760);
    }

    private void countCells() {
        String words = "7 the number of cells that lie in the area of a label,";
        Story cells = story("Promise 17", words).looks("count 7", 0).call("addRiver 1 0 0 5 2", 0)
            .call("addRiver 1 59 39 5 2", 1);
        cells.looks("count 7", 0).call("set 0 0", 0).looks("count 7", 9).call("set 1 0", 1).looks("count 7", 18);
        cells.call("remove 0", 1).looks("count 7", 9).call("remove 0", 0).looks("count 7", 0);
        Story shared = story("Promise 17", words).call("addRiver 1 30 20 5 1", 0).call("addRiver 1 30 20 6 1", 1);
        shared.call("set 0 0", 0).call("set 1 0", 1).looks("count 7", 9).call("setHalo 0 2", 1).looks("count 7", 25);
        shared.call("setHalo 1 2", 1).looks("count 7", 25).call("tidy", 1).looks("count 7", 25);
    }

    private void river() {
        Story property = scene("Promise 18", "Returns a property of a river.");
        int[][] due = {{5, 1, 3, 12, 2, 13, 0}, {7, 0, 1, 8, 1, 9, 0}};
        for (int what = 0; what <= 6; what++) {
            property.looks("river 0 " + what, due[0][what]).looks("river 1 " + what, due[1][what]);
        }
        scene("Promise 18", "river: a river").range("river * 0", 0, 5, 1, 7);
        scene("Promise 18", "what: 0 its rank, 1 its halo, 2 the number of letters of its name, 3 the number of its moves, 4 "
            + "the number of its labels, 5 the number of different cells of its places, 6 the sum of the turns of all its "
            + "successive moves").range("river 0 *", 0, 5, 6, 0);
        Story least = story("Promise 18", "Returns the property;").call("addRiver 1 0 0 1 0", 0);
        int[] bare = {1, 0, 1, 0, 0, 1, 0};
        for (int what = 0; what <= 6; what++) {
            least.looks("river 0 " + what, bare[what]);
        }
        Story most = sixty("Promise 18", "Returns the property;", 12).looks("river 0 2", 12).looks("river 0 3", 60);
        most.looks("river 0 5", 2).looks("river 0 6", 59 * 4).call("setGap 0", 10);
        most.call("place 5", 5).looks("river 0 4", 5);
        Story labels = sixty("Promise 18", "4 the number of its labels,", 1).call("setGap 0", 10)
            .looks("river 0 4", 0);
        for (int i = 0; i < 20; i++) {
            labels.call("set 0 " + i, i).looks("river 0 4", i + 1);
        }
        Story wrong = scene("Promise 18", "INVALID_ARGUMENT if there is no such river or what is out of range.");
        wrong.refuses("river 2 0", WRONG).refuses("river -1 0", WRONG).refuses("river 0 7", WRONG)
            .refuses("river 0 -1", WRONG);
        wrong.refuses("river 2 7", WRONG);
        riverOfDifferentCells();
    }

    private void riverOfDifferentCells() {
        Story cells = story("Promise 18", "5 the number of different cells of its places,")
            .call("addRiver 1 30 20 5 0", 0);
        cells.looks("river 0 5", 1).flow(0, "0").looks("river 0 5", 2).flow(0, "4").looks("river 0 5", 2);
        cells.flow(0, "4").looks("river 0 5", 3).flow(0, "60").looks("river 0 5", 5).flow(0, "2")
            .looks("river 0 5", 5);
        cells.call("setHalo 0 1", 0).call("set 0 0", 0).call("river 0 5", 5).call("count 7", 9).call("river 0 5", 5);
        cells.call("label 0 5", 9).call("river 0 5", 5).call("label 0 5", 9).call("count 7", 9);
        Story all = story("Promise 18", "5 the number of different cells of its places,")
            .call("addRiver 1 0 0 5 0", 0);
        all.flow(0, "0".repeat(59)).looks("river 0 5", 60).call("flow 0 2", 60).looks("river 0 5", 61);
    }

    private void cell() {
        Story place = scene("Promise 19", "Returns the cell of a place of a river.").looks("cell 0 0", 1010);
        place.looks("cell 0 12", 2210).looks("cell 1 0", 4020).looks("cell 1 8", 4028);
        scene("Promise 19", "river: a river").range("cell * 3", 0, 1310, 1, 4023);
        sixty("Promise 19", "place: 0 to 60", 1).range("cell 0 *", 0, 0, 60, 0);
        scene("Promise 19", "place: 0 to 60").range("cell 0 *", 0, 1010, 60, NONE);
        Story value = story("Promise 19", "Returns 100 * its column + its row;").call("addRiver 1 59 39 1 0", 0);
        value.looks("cell 0 0", 5939).call("addRiver 1 0 0 1 0", 1).looks("cell 1 0", 0)
            .call("addRiver 1 0 39 1 0", 2);
        value.looks("cell 2 0", 39).call("addRiver 1 59 0 1 0", 3).looks("cell 3 0", 5900);
        Story wrong = scene("Promise 19", "INVALID_ARGUMENT if an argument is out of range;")
            .refuses("cell 0 -1", WRONG);
        wrong.refuses("cell 0 61", WRONG).refuses("cell 2 0", WRONG).refuses("cell -1 0", WRONG)
            .refuses("cell 2 60", WRONG);
        Story none = scene("Promise 19", "NONE if the river has not so many places.").refuses("cell 0 13", NONE);
        none.refuses("cell 0 60", NONE).refuses("cell 1 9", NONE).call("flow 1 0", 9).looks("cell 1 9", 4128);
        none.refuses("cell 1 10", NONE).call("undo", 4).refuses("cell 1 9", NONE);
    }

    private void letter() {
        Story name = scene("Promise 20", "Returns a letter of the name of a river.").looks("letter 0 0", 'a');
        name.looks("letter 0 1", 'b').looks("letter 0 2", 'c').looks("letter 1 0", 'a');
        scene("Promise 20", "river: a river").range("letter * 0", 0, 'a', 1, 'a');
        Story index = scene("Promise 20", "index: 0 for the first one").looks("letter 0 0", 'a')
            .refuses("letter 0 -1", WRONG);
        index.looks("letter 0 1", 'b');
        Story sign = story("Promise 20", "Returns the character;")
            .loads("river azbycxdwevfu 0 0 1 0 0;river z 0 0 1 0 0;", 2);
        for (int i = 0; i < 12; i++) {
            sign.looks("letter 0 " + i, "azbycxdwevfu".charAt(i));
        }
        sign.refuses("letter 0 12", NONE).looks("letter 1 0", 'z').refuses("letter 1 1", NONE);
        Story wrong = scene("Promise 20", "INVALID_ARGUMENT if there is no such river or index is negative;");
        wrong.refuses("letter 0 -1", WRONG).refuses("letter 0 " + LEAST, WRONG).refuses("letter 2 0", WRONG);
        wrong.refuses("letter -1 0", WRONG).refuses("letter 2 -1", WRONG).refuses("letter 2 99", WRONG);
        Story none = scene("Promise 20", "NONE if the name has not so many letters.").refuses("letter 0 3", NONE);
        none.refuses("letter 0 " + MOST, NONE).refuses("letter 1 1", NONE).call("addRiver 12 0 0 1 0", 2);
        none.looks("letter 2 11", 'l').refuses("letter 2 12", NONE).refuses("letter 2 13", NONE);
    }

    private void town() {
        Story property = scene("Promise 21", "Returns a property of a town.");
        int[][] due = {{20, 20, 3, 2, 4, 0}, {0, 0, 12, 3, 9, 0}};
        for (int what = 0; what <= 5; what++) {
            property.looks("town 0 " + what, due[0][what]).looks("town 1 " + what, due[1][what]);
        }
        scene("Promise 21", "town: a town").range("town * 0", 0, 20, 1, 0);
        scene("Promise 21", "what: 0 its left column, 1 its upper row, 2 its width, 3 its height, 4 its rank, 5 the number of "
            + "labels whose area has a cell in common with it").range("town 0 *", 0, 20, 5, 0);
        Story bounds = story("Promise 21", "Returns the property;").call("addTown 59 39 1 1 1", 0)
            .call("addTown 48 37 12 3 9", 1);
        int[][] ends = {{59, 39, 1, 1, 1, 0}, {48, 37, 12, 3, 9, 0}};
        for (int what = 0; what <= 5; what++) {
            bounds.looks("town 0 " + what, ends[0][what]).looks("town 1 " + what, ends[1][what]);
        }
        Story wrong = scene("Promise 21", "INVALID_ARGUMENT if there is no such town or what is out of range.");
        wrong.refuses("town 2 0", WRONG).refuses("town -1 0", WRONG).refuses("town 0 6", WRONG)
            .refuses("town 0 -1", WRONG);
        wrong.refuses("town 2 6", WRONG);
        story("Promise 21", "INVALID_ARGUMENT if there is no such town").refuses("town 0 0", WRONG);
    }

    private void townBesideLabels() {
        Story town = sixty("Promise 21", "5 the number of labels whose area has a cell in common with it", 1);
        town.call("setGap 0", 10).call("addTown 0 0 1 1 1", 0).call("addTown 1 0 1 1 1", 1)
            .call("addTown 2 0 1 1 1", 2);
        for (int i = 0; i < 20; i++) {
            town.call("set 0 " + i, i).looks("town 0 5", i / 2 + 1).looks("town 1 5", (i + 1) / 2)
                .looks("town 2 5", 0);
        }
        town.call("setHalo 0 1", 0).looks("town 0 5", 20).looks("town 1 5", 20).looks("town 2 5", 10);
        town.call("addTown 0 2 12 3 1", 3).looks("town 3 5", 0).call("setHalo 0 2", 1).looks("town 3 5", 20);
    }

    private void label() {
        Story property = scene("Promise 22", "Returns a property of a label.");
        int[][] due = {{0, 0, 10, 0, 0, 15, 0, 0}, {1, 2, 4, 0, 0, 1, 0, 0}, {0, 10, 10, 0, 0, 15, 0, 0}};
        for (int what = 0; what <= 7; what++) {
            for (int label = 0; label < 3; label++) {
                property.looks("label " + label + " " + what, due[label][what]);
            }
        }
        scene("Promise 22", "label: a label").range("label * 0", 0, 0, 2, 0);
        scene("Promise 22", "what: 0 its river, 1 its start, 2 its cost, 3 its bend, 4 1 if it is turned and 0 if not, 5 the "
            + "number of cells of its area, 6 the reason for which it may not stand any more beside all others (0 if it "
            + "may), 7 the number of towns whose area has a cell in common with its own").range("label 0 *", 0, 0, 7, 0);
        Story wrong = scene("Promise 22", "INVALID_ARGUMENT if there is no such label or what is out of range.");
        wrong.refuses("label 3 0", WRONG).refuses("label -1 0", WRONG).refuses("label 0 8", WRONG)
            .refuses("label 0 -1", WRONG);
        wrong.refuses("label 3 8", WRONG).call("remove 2", 2).refuses("label 2 0", WRONG);
        story("Promise 22", "INVALID_ARGUMENT if there is no such label").refuses("label 0 0", WRONG);
    }

    private void labelAtTheBounds() {
        Story longest = sixty("Promise 22", "Returns the property;", 12).call("set 0 49", 0);
        int[] due = {0, 49, 449, 40, 1, 2, 0, 0};
        for (int what = 0; what <= 7; what++) {
            longest.looks("label 0 " + what, due[what]);
        }
        Story towns = story("Promise 22", "7 the number of towns whose area has a cell in common with its own");
        towns.call("addRiver 1 30 20 9 1", 0).call("set 0 0", 0);
        for (int town = 0; town < 10; town++) {
            towns.call("addTown " + (30 + town % 2) + " 21 2 1 8", town).looks("label 0 7", town + 1);
        }
        towns.looks("label 0 6", 0).call("setTownRank 9 9", 8).looks("label 0 6", 3).looks("label 0 7", 10);
        Story reasons = story("Promise 22", "6 the reason for which it may not stand any more beside all others (0 if it may),");
        reasons.call("addRiver 1 30 20 5 0", 0).flow(0, "0").call("setGap 0", 10).call("set 0 0", 0)
            .call("set 0 1", 1);
        reasons.looks("label 0 6", 0).looks("label 1 6", 0).call("setGap 1", 0).looks("label 0 6", 2)
            .looks("label 1 6", 2);
        reasons.call("setGap 0", 1).call("addRiver 1 31 20 6 0", 1).call("set 1 0", 2).looks("label 0 6", 0);
        reasons.looks("label 1 6", 4).looks("label 2 6", 0).call("setRank 1 5", 6).looks("label 1 6", 4)
            .looks("label 2 6", 4);
        reasons.call("addTown 31 20 1 1 5", 0).looks("label 1 6", 3).looks("label 2 6", 3).looks("label 0 6", 0);
    }

    private void written() {
        Story sign = scene("Promise 23", "Returns the letter that stands on a cell:").looks("written 9 10", NONE);
        sign.looks("written 10 10", 'a').looks("written 11 10", 'b').looks("written 12 10", 'c')
            .looks("written 13 10", NONE);
        sign.looks("written 10 9", NONE).looks("written 22 10", 'c').looks("written 40 22", 'a')
            .looks("written 40 21", NONE);
        scene("Promise 23", "x: 0 to 59").range("written * 10", 0, NONE, 59, NONE);
        scene("Promise 23", "y: 0 to 39").range("written 10 *", 0, NONE, 39, NONE);
        Story corners = story("Promise 23", "Returns the character;")
            .loads("river qz 0 0 5 0 0;river yx 59 39 5 0 4;", 2);
        corners.call("set 0 0", 0).call("set 1 0", 1).looks("written 0 0", 'q').looks("written 1 0", 'z');
        corners.looks("written 58 39", 'y').looks("written 59 39", 'x');
        Story wrong = scene("Promise 23", "INVALID_ARGUMENT if an argument is out of range;")
            .refuses("written 60 39", WRONG);
        wrong.refuses("written 59 40", WRONG).refuses("written -1 0", WRONG).refuses("written 0 -1", WRONG);
        wrong.refuses("written " + LEAST + " 0", WRONG).refuses("written 0 " + MOST, WRONG);
        Story none = story("Promise 23", "NONE if there is none.").refuses("written 0 0", NONE)
            .refuses("written 59 39", NONE);
        none.call("addRiver 1 0 0 1 2", 0).refuses("written 0 0", NONE).call("set 0 0", 0).looks("written 0 0", 'a');
        none.refuses("written 1 1", NONE).call("remove 0", 0).refuses("written 0 0", NONE);
    }

    private void writtenOfSeveral() {
        Story rank = story("Promise 23", "of the label whose river has the highest rank, of several of the label with the "
            + "smallest number;").loads("river p 30 20 8 0 0;river q 30 20 9 0 0;river r 30 20 1 0 0;", 3);
        rank.call("setRank 2 9", 1).call("setRank 1 8", 9).call("set 1 0", 0).call("set 2 0", 1);
        rank.looks("written 30 20", 'r').call("setRank 0 9", 8).refuses("set 0 0", STATE);
        rank.call("setRank 2 8", 9).looks("written 30 20", 'q').call("set 0 0", 2).looks("written 30 20", 'p');
        rank.call("setRank 2 9", 8).looks("written 30 20", 'r').call("setRank 1 9", 8).looks("written 30 20", 'q');
        rank.call("remove 0", 2).looks("written 30 20", 'r').call("setRank 2 1", 9).looks("written 30 20", 'p');
        rank.call("setRank 0 1", 9).looks("written 30 20", 'r').call("remove 0", 1).looks("written 30 20", 'p');
        String words = "if the label has several letters there, the one that stands at the smallest place.";
        story("Promise 23", words).call("addRiver 3 30 20 5 0", 0).flow(0, "04").call("set 0 0", 0)
            .looks("written 30 20", 'a').looks("written 31 20", 'b');
        story("Promise 23", words).call("addRiver 12 30 20 5 0", 0).flow(0, "40404040404").call("set 0 0", 0)
            .looks("label 0 4", 1).looks("written 30 20", 'l').looks("written 29 20", 'k');
        story("Promise 23", words).call("addRiver 12 30 20 5 0", 0).flow(0, "04040404040").call("set 0 0", 0)
            .looks("label 0 4", 0).looks("written 30 20", 'a').looks("written 31 20", 'b');
        Story both = story("Promise 23", words).call("addRiver 2 30 20 5 0", 0).flow(0, "040").call("setGap 0", 10);
        both.call("set 0 2", 0).call("set 0 0", 1).looks("written 30 20", 'a').looks("written 31 20", 'b');
    }
}
