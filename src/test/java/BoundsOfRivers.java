/** The bounds that the promises 1 to 11 name: a new object, the text, rivers and towns. */
final class BoundsOfRivers extends Bounds {
    BoundsOfRivers(Due due, Document document) {
        super(due, document);
    }

    @Override
    void tell() {
        newObject();
        append();
        clearText();
        load();
        addRiver();
        addRiverBehindUndo();
        addRiverWhenFull();
        addTown();
        addTownWhenFull();
        flow();
        flowWhenFull();
        setRank();
        setHalo();
        setTownRank();
        setGap();
    }

    private void newObject() {
        Story empty = story("Promise 1", "Creates a map without rivers, towns and labels, with an empty text.");
        int[] counts = {0, 0, 0, 10, 0, 0, 0, 0, 0, 0};
        for (int what = 0; what < 10; what++) {
            empty.looks("count " + what, counts[what]);
        }
        empty.refuses("river 0 0", WRONG).refuses("cell 0 0", WRONG).refuses("letter 0 0", WRONG)
            .refuses("town 0 0", WRONG);
        empty.refuses("label 0 0", WRONG).refuses("written 0 0", NONE).refuses("written 59 39", NONE);
        empty.refuses("bend 0 0 1", WRONG).refuses("straightest 0 1", WRONG).refuses("reason 0 0", WRONG);
        empty.refuses("best 0 0", WRONG).refuses("rankFor 0", WRONG).refuses("flow 0 0", WRONG)
            .refuses("setRank 0 1", WRONG);
        empty.refuses("setHalo 0 0", WRONG).refuses("setTownRank 0 1", WRONG).refuses("set 0 0", WRONG);
        empty.refuses("remove 0", WRONG).refuses("undo", STATE).refuses("clearText", 0);
        empty.branch().call("place 5", 0).call("tidy", 0).call("load", 0).looks("count 8", 3);
    }

    private void append() {
        Story one = story("Promise 2", "Appends a character to the text.").looks("count 9", 0).call("append 120", 1);
        one.looks("count 9", 1).refuses("load", -1000).call("append 120", 2).looks("clearText", 2);
        scene("Promise 2", "character: character code, 1 to 255").range("append *", 1, 16, 255, 16)
            .refuses("append 0", WRONG).refuses("append 256", WRONG).refuses("append 353", WRONG);
        Story length = story("Promise 2", "Returns the new length of the text;");
        for (int i = 1; i <= 150; i++) {
            length.call("append 32", i).looks("count 9", i);
        }
        scene("Promise 2", "INVALID_ARGUMENT if character is out of range;").refuses("append -1", WRONG)
            .refuses("append " + LEAST, WRONG).refuses("append " + MOST, WRONG).call("append 255", 16);
        Story full = story("Promise 2", "CAPACITY_EXCEEDED if the text already has 150 characters.");
        full.write(" ".repeat(149)).call("append 32", 150).refuses("append 32", FULL).refuses("append 255", FULL);
        full.call("load", 0).call("append 32", 1).call("clearText", 1).write(" ".repeat(150))
            .refuses("append 32", FULL);
    }

    private void clearText() {
        Story text = story("Promise 3", "Makes the text empty.").refuses("clearText", 0).write("town 0 0 1 1");
        text.call("clearText", 12).looks("count 9", 0).write(" 1;").refuses("load", -1001);
        Story length = story("Promise 3", "Returns the previous length of the text.").call("clearText", 0);
        length.write("x").call("clearText", 1).call("clearText", 0).write("x".repeat(150)).call("clearText", 150);
        length.looks("count 9", 0).write("x".repeat(150)).refuses("append 120", FULL).refuses("load", -1000);
    }

    private void load() {
        Story empty = story("Promise 4", "Reads the text. The text becomes empty. This is one action, also without items.");
        empty.call("load", 0).looks("count 8", 1).write(" ").call("load", 0).looks("count 8", 2).looks("count 9", 0);
        empty.write("town 0 0 1 1 1;town 0 0 1 1 2;river a 5 5 5 0 0;").isAction("load", 3);
        empty.call("load", 3).looks("count 8", 3).looks("count 9", 0).call("undo", 2).looks("count 1", 0)
            .looks("count 0", 0);
        Story items = story("Promise 4", "Returns the number of items;");
        items.wouldLoad("", 0).wouldLoad("town 0 0 1 1 1;", 1).wouldLoad("town 0 0 1 1 1;".repeat(10), 10);
        items.wouldLoad("town 0 0 1 1 1;".repeat(4) + "river a 5 5 5 0 0;".repeat(5), 9);
        Story error = scene("Promise 4", "-1000 minus the error position if the text has an error (then nothing changes, "
            + "and the text is kept).");
        error.call("append 120", 16).refuses("load", -1015).call("load", -1015).looks("count 9", 16)
            .looks("count 8", 5);
        error.call("clearText", 16).rejects("x", 0).rejects(" ".repeat(149) + "x", 149)
            .rejects("town" + " ".repeat(146), 150);
        error.rejects("town 0 0 1 1 1;town 0 0 1 1 1;river a 5 5 5 0 0;town 0 0 1 1 0;", 61);
    }

    private void addRiver() {
        Story added = scene("Promise 5", "Adds a river without moves, whose name consists of the first letters of the "
            + "alphabet. This is an action.");
        added.isAction("addRiver 12 59 39 9 2", 2).call("addRiver 12 59 39 9 2", 2).looks("river 2 3", 0);
        for (int i = 0; i < 12; i++) {
            added.looks("letter 2 " + i, 'a' + i);
        }
        added.refuses("letter 2 12", NONE).refuses("cell 2 1", NONE).looks("cell 2 0", 5939).looks("river 2 4", 0);
        added.call("addRiver 1 0 0 1 0", 3).looks("letter 3 0", 'a').refuses("letter 3 1", NONE);
        scene("Promise 5", "letters: 1 to 12, the number of letters of its name")
            .range("addRiver * 0 0 1 0", 1, 2, 12, 2);
        scene("Promise 5", "x: 0 to 59, the column of its first cell").range("addRiver 1 * 0 1 0", 0, 2, 59, 2);
        scene("Promise 5", "y: 0 to 39, the row of its first cell").range("addRiver 1 0 * 1 0", 0, 2, 39, 2);
        scene("Promise 5", "rank: 1 to 9").range("addRiver 1 0 0 * 0", 1, 2, 9, 2);
        scene("Promise 5", "halo: 0 to 2").range("addRiver 1 0 0 1 *", 0, 2, 2, 2);
        scene("Promise 5", "INVALID_ARGUMENT if an argument is out of range;").refuses("addRiver 0 -1 -1 0 -1", WRONG)
            .refuses("addRiver 13 60 40 10 3", WRONG).refuses("addRiver 1 40 59 1 0", WRONG);
    }

    /** Longer rivers that were undone leave nothing behind. */
    private void addRiverBehindUndo() {
        Story added = story("Promise 5", "Adds a river without moves, whose name consists of the first letters");
        added.call("addRiver 12 30 20 9 2", 0).flow(0, "0000").call("set 0 0", STATE);
        for (int left = 4; left >= 0; left--) {
            added.call("undo", left);
        }
        for (int letters = 1; letters <= 9; letters++) {
            added.call("addRiver " + letters + " 5 5 1 0", 0).looks("river 0 2", letters).looks("river 0 3", 0);
            added.refuses("cell 0 1", NONE).refuses("letter 0 " + letters, NONE).call("flow 0 2", 1);
            added.looks("cell 0 1", 506).refuses("cell 0 2", NONE).call("undo", 1).call("undo", 0);
            added.refuses("river 0 0", WRONG);
        }
    }

    private void addRiverWhenFull() {
        Story number = story("Promise 5", "Returns its number;");
        for (int river = 0; river < 6; river++) {
            number.call("addRiver 1 0 0 1 0", river);
        }
        Story full = story("Promise 5", "CAPACITY_EXCEEDED if there are 6 rivers.").call("addRiver 1 0 0 1 0", 0);
        full.call("addRiver 1 0 0 1 0", 1).call("addRiver 1 0 0 1 0", 2).call("addRiver 1 0 0 1 0", 3);
        full.call("addRiver 1 0 0 1 0", 4).call("addRiver 12 59 39 9 2", 5).refuses("addRiver 1 0 0 1 0", FULL);
        full.refuses("river 6 0", WRONG).call("undo", 4).call("addRiver 3 1 1 1 1", 5)
            .refuses("addRiver 1 0 0 1 0", FULL);
        full.looks("river 5 2", 3).looks("letter 5 3", NONE);
    }

    private void addTown() {
        Story added = scene("Promise 6", "Adds a town. This is an action.").isAction("addTown 48 37 12 3 9", 2);
        added.call("addTown 48 37 12 3 9", 2).looks("town 2 0", 48).looks("town 2 1", 37).looks("town 2 2", 12);
        added.looks("town 2 3", 3).looks("town 2 4", 9).looks("town 2 5", 0);
        scene("Promise 6", "x: 0 to 59, its left column").range("addTown * 0 1 1 1", 0, 2, 59, 2);
        scene("Promise 6", "y: 0 to 39, its upper row").range("addTown 0 * 1 1 1", 0, 2, 39, 2);
        scene("Promise 6", "width: 1 to 12").range("addTown 0 0 * 1 1", 1, 2, 12, 2);
        scene("Promise 6", "height: 1 to 3").range("addTown 0 0 1 * 1", 1, 2, 3, 2);
        scene("Promise 6", "rank: 1 to 9").range("addTown 0 0 1 1 *", 1, 2, 9, 2);
        Story wrong = scene("Promise 6", "INVALID_ARGUMENT if an argument is out of range, or a cell would lie outside of "
            + "the map;");
        wrong.refuses("addTown -1 -1 0 0 0", WRONG).refuses("addTown 60 40 13 4 10", WRONG)
            .refuses("addTown 40 59 1 1 1", WRONG);
        wrong.refuses("addTown 49 0 12 1 1", WRONG).refuses("addTown 59 0 2 1 1", WRONG)
            .refuses("addTown 0 38 1 3 1", WRONG);
        wrong.refuses("addTown 0 39 1 2 1", WRONG).refuses("addTown 59 39 2 1 1", WRONG)
            .refuses("addTown 59 39 1 2 1", WRONG);
        wrong.refuses("addTown " + MOST + " 0 12 1 1", WRONG).refuses("addTown 0 0 " + MOST + " 1 1", WRONG);
        wrong.refuses("addTown 0 " + MOST + " 1 3 1", WRONG).refuses("addTown 1 1 1 " + MOST + " 1", WRONG);
        wrong.refuses("addTown -1 0 2 1 1", WRONG).refuses("addTown 0 -1 1 2 1", WRONG);
        wrong.call("addTown 58 0 2 1 1", 2).call("addTown 0 38 1 2 1", 3).call("addTown 59 39 1 1 1", 4);
    }

    private void addTownWhenFull() {
        Story number = story("Promise 6", "Returns its number;");
        Story full = story("Promise 6", "CAPACITY_EXCEEDED if there are 10 towns.");
        for (int town = 0; town < 10; town++) {
            number.call("addTown 59 39 1 1 9", town).looks("count 1", town + 1);
            full.call("addTown 0 0 1 1 " + Math.min(9, town + 1), town);
        }
        full.refuses("addTown 0 0 1 1 1", FULL).refuses("town 10 0", WRONG).looks("town 9 4", 9).looks("town 0 4", 1);
        full.call("undo", 4).refuses("town 9 0", WRONG).call("addTown 7 0 1 1 1", 9)
            .refuses("addTown 0 0 1 1 1", FULL);
    }

    private void flow() {
        Story moves = scene("Promise 7", "Lengthens a river by a move. This is an action.").isAction("flow 0 2", 13);
        moves.call("flow 0 2", 13).looks("cell 0 13", 2211).looks("cell 0 12", 2210).looks("cell 1 8", 4028);
        scene("Promise 7", "river: a river").range("flow * 0", 0, 13, 1, 9);
        scene("Promise 7", "direction: 0 to 7").range("flow 0 *", 0, 13, 7, 13);
        Story number = story("Promise 7", "Returns the number of its moves then;").call("addRiver 1 30 20 5 0", 0);
        for (int move = 1; move <= 60; move++) {
            number.call("flow 0 " + (move % 2 == 1 ? 3 : 7), move).looks("river 0 3", move);
        }
        scene("Promise 7", "INVALID_ARGUMENT if an argument is out of range;").refuses("flow 2 8", WRONG)
            .refuses("flow -1 -1", WRONG).refuses("flow 2 0", WRONG).refuses("flow 0 8", WRONG);
        story("Promise 7", "INVALID_ARGUMENT if an argument is out of range;").refuses("flow 0 0", WRONG);
        Story off = story("Promise 7", "ILLEGAL_STATE if the cell would lie outside of the map;");
        off.call("addRiver 1 58 1 5 0", 0).flow(0, "7").refuses("flow 0 7", STATE).refuses("flow 0 0", STATE);
        off.refuses("flow 0 1", STATE).refuses("flow 0 6", STATE).refuses("flow 0 5", STATE).flow(0, "3");
        off.call("addRiver 1 1 38 5 0", 1).flow(1, "3").refuses("flow 1 1", STATE).refuses("flow 1 2", STATE);
        off.refuses("flow 1 3", STATE).refuses("flow 1 4", STATE).refuses("flow 1 5", STATE).flow(1, "60");
    }

    private void flowWhenFull() {
        Story full = sixty("Promise 7", "CAPACITY_EXCEEDED if the river has 60 moves.", 1);
        for (int direction = 0; direction < 8; direction++) {
            full.refuses("flow 0 " + direction, direction <= 2 ? FULL : STATE);
        }
        Story last = story("Promise 7", "CAPACITY_EXCEEDED if the river has 60 moves.")
            .call("addRiver 1 30 20 5 0", 0);
        last.flow(0, SIXTY.substring(1)).call("flow 0 5", 60).refuses("flow 0 0", FULL).call("undo", 4)
            .call("flow 0 1", 60);
        last.refuses("flow 0 0", FULL).call("addRiver 1 30 20 5 0", 1).call("flow 1 0", 1);
    }

    private void setRank() {
        Story rank = scene("Promise 8", "Sets the rank of a river. This is an action.").isAction("setRank 0 9", 5);
        rank.call("setRank 0 9", 5).looks("river 0 0", 9).looks("river 1 0", 7).looks("town 0 4", 4);
        scene("Promise 8", "river: a river").range("setRank * 3", 0, 5, 1, 7);
        scene("Promise 8", "rank: 1 to 9").range("setRank 0 *", 1, 5, 9, 5);
        Story previous = scene("Promise 8", "Returns the previous rank;");
        for (int value = 1; value <= 9; value++) {
            previous.call("setRank 0 " + value, value == 1 ? 5 : value - 1);
        }
        previous.call("setRank 0 9", 9).looks("river 0 0", 9);
        scene("Promise 8", "INVALID_ARGUMENT if an argument is out of range.").refuses("setRank 0 0", WRONG)
            .refuses("setRank 0 10", WRONG).refuses("setRank 2 0", WRONG).refuses("setRank 2 5", WRONG);
        story("Promise 8", "INVALID_ARGUMENT if an argument is out of range.").refuses("setRank 0 5", WRONG)
            .call("addTown 0 0 1 1 1", 0).refuses("setRank 0 5", WRONG);
    }

    private void setHalo() {
        Story halo = scene("Promise 9", "Sets the halo of a river. This is an action.").isAction("setHalo 0 2", 1);
        halo.call("setHalo 0 2", 1).looks("river 0 1", 2).looks("river 1 1", 0).looks("label 0 5", 7 * 5);
        scene("Promise 9", "river: a river").range("setHalo * 2", 0, 1, 1, 0);
        scene("Promise 9", "halo: 0 to 2").range("setHalo 0 *", 0, 1, 2, 1);
        scene("Promise 9", "Returns the previous halo;").call("setHalo 0 0", 1).call("setHalo 0 1", 0)
            .call("setHalo 0 2", 1)
            .call("setHalo 0 2", 2).call("setHalo 0 0", 2);
        scene("Promise 9", "INVALID_ARGUMENT if an argument is out of range.").refuses("setHalo 0 3", WRONG)
            .refuses("setHalo 0 -1", WRONG).refuses("setHalo 2 3", WRONG).refuses("setHalo -1 1", WRONG);
        story("Promise 9", "INVALID_ARGUMENT if an argument is out of range.").refuses("setHalo 0 1", WRONG);
    }

    private void setTownRank() {
        Story rank = scene("Promise 10", "Sets the rank of a town. This is an action.")
            .isAction("setTownRank 0 9", 4);
        rank.call("setTownRank 0 8", 4).looks("town 0 4", 8).looks("town 1 4", 9).looks("river 0 0", 5);
        scene("Promise 10", "town: a town").range("setTownRank * 3", 0, 4, 1, 9);
        scene("Promise 10", "rank: 1 to 9").range("setTownRank 0 *", 1, 4, 9, 4);
        Story previous = scene("Promise 10", "Returns the previous rank;");
        for (int value = 1; value <= 9; value++) {
            previous.call("setTownRank 0 " + value, value == 1 ? 4 : value - 1);
        }
        scene("Promise 10", "INVALID_ARGUMENT if an argument is out of range.").refuses("setTownRank 0 0", WRONG)
            .refuses("setTownRank 0 10", WRONG).refuses("setTownRank 2 0", WRONG).refuses("setTownRank 2 5", WRONG);
        story("Promise 10", "INVALID_ARGUMENT if an argument is out of range.").refuses("setTownRank 0 5", WRONG)
            .call("addRiver 1 0 0 1 0", 0).refuses("setTownRank 0 5", WRONG);
        Story last = story("Promise 10", "town: a town");
        for (int town = 0; town < 10; town++) {
            last.call("addTown 0 0 1 1 1", town);
        }
        last.range("setTownRank * 5", 0, 1, 9, 1);
    }

    private void setGap() {
        Story gap = scene("Promise 11", "Sets the gap. This is an action.").isAction("setGap 60", 2);
        gap.call("setGap 60", 2).looks("count 3", 60).looks("count 5", 2).call("setGap 0", 60).looks("count 5", 0);
        scene("Promise 11", "gap: 0 to 60").range("setGap *", 0, 2, 60, 2);
        story("Promise 11", "Returns the previous gap;").call("setGap 0", 10).call("setGap 60", 0)
            .call("setGap 59", 60)
            .call("setGap 1", 59).call("setGap 1", 1);
        scene("Promise 11", "INVALID_ARGUMENT if gap is out of range.").refuses("setGap -1", WRONG)
            .refuses("setGap 61", WRONG);
    }
}
