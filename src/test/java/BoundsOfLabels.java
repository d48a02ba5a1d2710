/** The bounds that the promises 12 to 16 name: setting and removing labels, and undo. */
final class BoundsOfLabels extends Bounds {
    BoundsOfLabels(Due due, Document document) {
        super(due, document);
    }

    @Override
    void tell() {
        set();
        setWhereItMayNotStand();
        setWhenFull();
        remove();
        removeOf20();
        placeAnew();
        placeByRank();
        placeRepeats();
        placeUpTo20();
        tidy();
        tidyInOrder();
        undo();
    }

    private void set() {
        Story label = scene("Promise 12", "Sets a label. This is an action.").isAction("set 0 5", 3)
            .call("set 0 5", 3);
        label.looks("label 3 0", 0).looks("label 3 1", 5).looks("count 2", 4).looks("label 2 1", 10);
        scene("Promise 12", "river: a river").range("set * 5", 0, 3, 1, 3);
        sixty("Promise 12", "start: 0 to 60", 1).range("set 0 *", 0, 0, 60, 0);
        Story number = sixty("Promise 12", "Returns the number of the label;", 1).call("setGap 0", 10);
        for (int i = 0; i < 20; i++) {
            number.call("set 0 " + 3 * i, i).looks("label " + i + " 1", 3 * i).looks("count 2", i + 1);
        }
        Story wrong = scene("Promise 12", "INVALID_ARGUMENT if an argument is out of range;");
        wrong.refuses("set -1 5", WRONG).refuses("set 2 5", WRONG).refuses("set 0 -1", WRONG)
            .refuses("set 0 61", WRONG);
        wrong.refuses("set 2 61", WRONG).refuses("set " + MOST + " 5", WRONG).refuses("set 0 " + LEAST, WRONG);
        story("Promise 12", "INVALID_ARGUMENT if an argument is out of range;").refuses("set 0 0", WRONG);
    }

    private void setWhereItMayNotStand() {
        Story label = story("Promise 12", "ILLEGAL_STATE if it may not stand;").call("addRiver 3 30 20 5 0", 0);
        label.refuses("set 0 0", STATE).flow(0, "0").refuses("set 0 0", STATE).flow(0, "0").refuses("set 0 1", STATE);
        label.refuses("set 0 60", STATE).call("set 0 0", 0).refuses("set 0 0", STATE).flow(0, "0000000000");
        label.refuses("set 0 1", STATE).refuses("set 0 10", STATE).call("setGap 7", 10).refuses("set 0 9", STATE);
        label.branch().call("set 0 10", 1);
        label.call("addTown 42 20 1 1 5", 0).refuses("set 0 10", STATE).call("setTownRank 0 4", 5);
        label.branch().call("set 0 10", 1);
        label.call("addRiver 1 40 20 5 0", 1).call("set 1 0", 1).refuses("set 0 10", STATE).call("setRank 1 4", 5);
        label.call("set 0 10", 2);
    }

    private void setWhenFull() {
        Story full = story("Promise 12", "CAPACITY_EXCEEDED if there are 20 labels.").call("setGap 0", 10);
        full.call("addRiver 1 0 20 5 0", 0).flow(0, "0".repeat(30)).call("addRiver 1 30 30 5 0", 1);
        for (int i = 0; i < 19; i++) {
            full.call("set 0 " + i, i);
        }
        full.branch().call("set 1 0", 19).refuses("set 0 19", FULL);
        full.call("set 0 30", 19).refuses("set 0 19", FULL).refuses("set 1 0", FULL).refuses("set 0 29", FULL);
        full.call("remove 0", 19).call("set 1 0", 19).refuses("set 0 0", FULL).call("undo", 4).call("undo", 3);
        full.refuses("set 1 0", FULL).call("undo", 2).call("set 1 0", 19);
    }

    private void remove() {
        Story label = scene("Promise 13", "Removes a label; the numbers of those behind it become smaller by 1. This is an "
            + "action.");
        label.isAction("remove 0", 2).isAction("remove 1", 2).isAction("remove 2", 2);
        label.branch().call("remove 0", 2).looks("label 0 0", 1).looks("label 1 1", 10).refuses("label 2 0", WRONG);
        label.branch().call("remove 1", 2).looks("label 0 1", 0).looks("label 1 1", 10).refuses("label 2 0", WRONG);
        label.branch().call("remove 2", 2).looks("label 0 1", 0).looks("label 1 0", 1).refuses("label 2 0", WRONG);
        scene("Promise 13", "label: a label").range("remove *", 0, 2, 2, 2);
        scene("Promise 13", "Returns the number of labels then;").call("remove 2", 2).call("remove 0", 1)
            .call("remove 0", 0)
            .looks("count 2", 0);
        Story none = scene("Promise 13", "INVALID_ARGUMENT if there is no such label.").refuses("remove 3", WRONG);
        none.refuses("remove -1", WRONG).call("remove 2", 2).refuses("remove 2", WRONG).call("remove 0", 1)
            .refuses("remove 1", WRONG);
        none.call("remove 0", 0).refuses("remove 0", WRONG);
        story("Promise 13", "INVALID_ARGUMENT if there is no such label.").refuses("remove 0", WRONG);
    }

    private void removeOf20() {
        Story label = sixty("Promise 13", "the numbers of those behind it become smaller by 1.", 1)
            .call("setGap 0", 10);
        for (int i = 0; i < 20; i++) {
            label.call("set 0 " + i, i);
        }
        label.range("remove *", 0, 19, 19, 19);
        label.branch().call("remove 0", 19).looks("label 0 1", 1).looks("label 18 1", 19)
            .refuses("label 19 1", WRONG);
        label.branch().call("remove 19", 19).looks("label 0 1", 0).looks("label 18 1", 18)
            .refuses("remove 19", WRONG);
        label.branch().call("remove 10", 19).looks("label 9 1", 9).looks("label 10 1", 11).call("set 0 10", 19)
            .looks("label 19 1", 10).refuses("set 0 40", FULL);
    }

    private void placeAnew() {
        Story label = scene("Promise 14", "Sets all labels anew: first, all are removed.").isAction("place 1", 2);
        label.call("place 1", 2).looks("label 0 0", 1).looks("label 0 1", 4).looks("label 1 0", 0)
            .looks("label 1 1", 5);
        label.call("place 1", 2).looks("label 0 1", 4).looks("label 1 1", 5);
        label.call("setRank 0 4", 5).call("addTown 10 10 12 1 9", 2).call("addTown 22 10 1 1 9", 3);
        label.call("place 1", 1).looks("label 0 0", 1).looks("count 6", 1);
        story("Promise 14", "first, all are removed.").call("place 5", 0).isAction("place 1", 0);
        Story river = story("Promise 14", "first, all are removed.").call("addRiver 1 30 20 5 0", 0)
            .call("set 0 0", 0);
        river.call("addTown 30 20 1 1 5", 0).call("place 5", 0).looks("count 2", 0).call("undo", 3)
            .looks("count 2", 1);
    }

    private void placeByRank() {
        Story label = story("Promise 14", "Then the rivers are gone through, those with the higher rank first, of several "
            + "the one with the smaller number;");
        for (int river = 0; river < 6; river++) {
            label.call("addRiver 1 30 20 " + new int[] {1, 9, 5, 9, 5, 1}[river] + " 0", river);
        }
        label.call("place 1", 1).looks("label 0 0", 1).call("setRank 1 8", 9).call("place 1", 1)
            .looks("label 0 0", 3);
        label.call("setRank 3 4", 9).call("place 1", 1).looks("label 0 0", 1).call("setRank 1 1", 8);
        label.call("place 1", 1).looks("label 0 0", 2).call("setRank 2 4", 5).call("place 1", 1)
            .looks("label 0 0", 4);
        label.call("setRank 4 1", 5).call("place 1", 1).looks("label 0 0", 2).call("setRank 2 1", 4);
        label.call("setRank 3 1", 4).call("place 1", 1).looks("label 0 0", 0).looks("count 6", 62);
        Story apart = story("Promise 14", "of several the one with the smaller number;");
        for (int river = 0; river < 6; river++) {
            apart.call("addRiver 1 30 " + 5 * river + " " + new int[] {1, 9, 5, 9, 5, 1}[river] + " 0", river);
        }
        int[] order = {1, 3, 2, 4, 0, 5};
        apart.call("place 1", 6);
        for (int i = 0; i < 6; i++) {
            apart.looks("label " + i + " 0", order[i]);
        }
    }

    private void placeRepeats() {
        Story label = sixty("Promise 14", "for each, as often as told, a label is set at its best start, as long as there is "
            + "one", 1);
        label.call("place 5", 5).looks("label 0 1", 30).looks("label 1 1", 19).looks("label 2 1", 41);
        label.looks("label 3 1", 8).looks("label 4 1", 52).call("place 3", 3).looks("label 2 1", 41);
        label.call("setGap 28", 10).call("place 5", 3).looks("label 0 1", 30).looks("label 1 1", 1)
            .looks("label 2 1", 59);
        label.call("setGap 60", 28).call("place 5", 1).looks("label 0 1", 30);
        label.call("setGap 59", 60).call("place 5", 1);
        sixty("Promise 14", "repeats: 1 to 5, how many labels a river gets at most", 1).range("place *", 1, 1, 5, 5);
        scene("Promise 14", "repeats: 1 to 5, how many labels a river gets at most").range("place *", 1, 2, 5, 6);
        Story number = sixty("Promise 14", "Returns the number of labels then;", 1);
        for (int repeats = 1; repeats <= 5; repeats++) {
            number.call("place " + repeats, repeats).looks("count 2", repeats);
        }
        story("Promise 14", "Returns the number of labels then;").call("place 1", 0).call("place 5", 0);
        scene("Promise 14", "INVALID_ARGUMENT if repeats is out of range.").refuses("place 0", WRONG)
            .refuses("place 6", WRONG);
    }

    private void placeUpTo20() {
        Story label = story("Promise 14", "and there are fewer than 20 labels. This is an action.")
            .call("setGap 0", 10);
        for (int river = 0; river < 4; river++) {
            label.call("addRiver 1 0 " + 5 * river + " 5 0", river).flow(river, "0000");
        }
        label.branch().call("place 5", 20).looks("label 19 0", 3).looks("count 6", 0);
        for (int river = 4; river < 6; river++) {
            label.call("addRiver 1 0 " + 5 * river + " " + (river == 4 ? 5 : 9) + " 0", river).flow(river, "0000");
        }
        label.call("place 5", 20).looks("label 0 0", 5).looks("label 4 0", 5).looks("label 5 0", 0)
            .looks("label 19 0", 2);
        label.looks("count 6", 8 + 16).looks("count 2", 20).refuses("label 20 0", WRONG).refuses("set 3 0", FULL);
        label.call("place 4", 20).looks("label 19 0", 3).looks("count 6", 16).call("place 3", 18).looks("count 6", 0);
        label.isAction("place 5", 20);
    }

    private void tidy() {
        Story none = story("Promise 15", "Returns the number of labels that were removed.").call("tidy", 0);
        none.call("addRiver 1 30 20 5 0", 0).call("tidy", 0).call("set 0 0", 0).call("tidy", 0).looks("count 2", 1);
        none.call("addTown 30 20 1 1 5", 0).call("tidy", 1).looks("count 2", 0).call("tidy", 0).call("undo", 4);
        none.call("undo", 3).looks("count 2", 1).looks("count 5", 1).isAction("tidy", 1);
        Story all = sixty("Promise 15", "Removes all labels that may not stand any more", 1).call("setGap 0", 10);
        for (int i = 0; i < 20; i++) {
            all.call("set 0 " + i, i);
        }
        all.branch().call("tidy", 0).looks("count 2", 20).call("setGap 60", 0).call("tidy", 19)
            .looks("label 0 1", 19);
        all.branch().call("setGap 1", 0).call("tidy", 19).looks("count 2", 1).looks("label 0 1", 19);
        all.branch().call("addTown 0 0 2 1 5", 0).looks("count 5", 20).call("tidy", 20).looks("count 2", 0);
        all.branch().call("addTown 1 0 1 1 5", 0).looks("count 5", 10).call("tidy", 10).looks("label 9 1", 18);
    }

    private void tidyInOrder() {
        Story label = story("Promise 15", "(looked at in ascending order, each one beside all others that are left). This is "
            + "an action.");
        label.call("addRiver 1 10 20 5 0", 0).flow(0, "00").call("setGap 0", 10);
        Story ascending = label.branch().call("set 0 0", 0).call("set 0 1", 1).call("set 0 2", 2).call("setGap 1", 0);
        ascending.looks("count 5", 3).isAction("tidy", 2).call("tidy", 2).looks("label 0 1", 2);
        Story middle = label.branch().call("set 0 1", 0).call("set 0 0", 1).call("set 0 2", 2).call("setGap 1", 0);
        middle.looks("count 5", 3).call("tidy", 1).looks("label 0 1", 0).looks("label 1 1", 2).looks("count 5", 0);
        Story last = label.branch().call("set 0 0", 0).call("set 0 2", 1).call("set 0 1", 2).call("setGap 1", 0);
        last.looks("count 5", 3).call("tidy", 2).looks("label 0 1", 1);
        Story ranks = label.branch().call("addRiver 1 10 20 6 0", 1).call("set 0 0", 0).call("set 1 0", 1);
        ranks.branch().looks("count 5", 1).call("tidy", 1).looks("label 0 0", 1);
        ranks.branch().call("setRank 0 6", 5).looks("count 5", 2).call("tidy", 1).looks("label 0 0", 1);
        ranks.branch().call("setRank 0 7", 5).looks("count 5", 1).call("tidy", 1).looks("label 0 0", 0);
    }

    private void undo() {
        Story latest = story("Promise 16", "Removes the latest state from the history and restores it.");
        latest.call("setGap 20", 10).call("setGap 30", 20).call("undo", 1).looks("count 3", 20).call("undo", 0);
        latest.looks("count 3", 10).refuses("undo", STATE);
        Story left = scene("Promise 16", "Returns the number of states that are left in the history;");
        for (int states = 4; states >= 0; states--) {
            left.call("undo", states).looks("count 8", states);
        }
        left.refuses("undo", STATE).call("setGap 9", 10).call("undo", 0);
        Story empty = story("Promise 16", "ILLEGAL_STATE if it is empty.").refuses("undo", STATE).call("load", 0);
        empty.call("undo", 0).refuses("undo", STATE).write("x").refuses("load", -1000).refuses("undo", STATE);
    }
}
