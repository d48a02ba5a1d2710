/** The bounds that the promises 24 to 28 name: bends, straight stretches, reasons, best starts and ranks. */
final class BoundsOfStretches extends Bounds {
    BoundsOfStretches(Due due, Document document) {
        super(due, document);
    }

    @Override
    void tell() {
        bend();
        bendOfTheLongestRiver();
        straightest();
        straightestOfSeveral();
        reason();
        best();
        rankFor();
        rankForOfLabels();
    }

    private Story bent(String section, String words) {
        return scene(section, words).flow(0, "217");
    }

    private void bend() {
        Story stretch = bent("Promise 24", "Returns the bend of a stretch of a river.").looks("bend 0 0 13", 0);
        stretch.looks("bend 0 0 14", 2).looks("bend 0 0 15", 3).looks("bend 0 0 16", 5).looks("bend 0 13 3", 2);
        scene("Promise 24", "river: a river").range("bend * 0 3", 0, 0, 1, 0);
        scene("Promise 24", "start: 0 to 60, its first place").range("bend 0 * 1", 0, 0, 60, NONE);
        sixty("Promise 24", "start: 0 to 60, its first place", 1).range("bend 0 * 1", 0, 0, 60, 0);
        scene("Promise 24", "places: 1 to 61, the number of its places").range("bend 0 0 *", 1, 0, 61, NONE);
        sixty("Promise 24", "places: 1 to 61, the number of its places", 1).range("bend 0 0 *", 1, 0, 61, 59 * 4);
        Story value = bent("Promise 24", "Returns the bend;");
        value.looks("bend 0 11 2", 0).looks("bend 0 12 2", 0).looks("bend 0 11 3", 2).looks("bend 0 12 3", 1);
        value.looks("bend 0 15 1", 0).looks("bend 0 14 2", 0);
        Story wrong = scene("Promise 24", "INVALID_ARGUMENT if an argument is out of range;")
            .refuses("bend 2 0 1", WRONG);
        wrong.refuses("bend -1 0 1", WRONG).refuses("bend 0 -1 1", WRONG).refuses("bend 0 61 1", WRONG);
        wrong.refuses("bend 0 0 0", WRONG).refuses("bend 0 0 62", WRONG).refuses("bend 0 61 62", WRONG);
        wrong.refuses("bend 0 60 62", WRONG).refuses("bend 2 61 62", WRONG).refuses("bend 0 " + MOST + " 61", WRONG);
        Story none = scene("Promise 24", "NONE if the river has not so many places.").looks("bend 0 0 13", 0);
        none.refuses("bend 0 0 14", NONE).looks("bend 0 1 12", 0).refuses("bend 0 1 13", NONE)
            .looks("bend 0 12 1", 0);
        none.refuses("bend 0 12 2", NONE).refuses("bend 0 13 1", NONE).refuses("bend 0 60 61", NONE)
            .refuses("bend 0 60 1", NONE);
        none.call("flow 0 0", 13).looks("bend 0 0 14", 0).looks("bend 0 13 1", 0).refuses("bend 0 14 1", NONE);
    }

    private void bendOfTheLongestRiver() {
        Story longest = sixty("Promise 24", "NONE if the river has not so many places.", 1)
            .looks("bend 0 0 61", 59 * 4);
        longest.refuses("bend 0 1 61", NONE).looks("bend 0 1 60", 58 * 4).looks("bend 0 60 1", 0)
            .refuses("bend 0 60 2", NONE);
        Story shortest = story("Promise 24", "NONE if the river has not so many places.")
            .call("addRiver 1 0 0 1 0", 0);
        shortest.looks("bend 0 0 1", 0).refuses("bend 0 0 2", NONE).refuses("bend 0 1 1", NONE)
            .refuses("bend 0 0 61", NONE);
    }

    private void straightest() {
        Story stretch = story("Promise 25", "Finds the straightest stretch of a river.")
            .call("addRiver 1 30 20 5 0", 0);
        stretch.flow(0, "0204666").looks("straightest 0 3", 4).looks("straightest 0 4", 4)
            .looks("straightest 0 5", 3);
        scene("Promise 25", "river: a river").range("straightest * 3", 0, 0, 1, 0);
        scene("Promise 25", "places: 1 to 61, the number of its places").range("straightest 0 *", 1, 0, 61, NONE);
        sixty("Promise 25", "places: 1 to 61, the number of its places", 1).range("straightest 0 *", 1, 0, 61, 0);
        Story wrong = scene("Promise 25", "INVALID_ARGUMENT if an argument is out of range;")
            .refuses("straightest 2 1", WRONG);
        wrong.refuses("straightest -1 1", WRONG).refuses("straightest 0 0", WRONG).refuses("straightest 0 62", WRONG);
        wrong.refuses("straightest 2 62", WRONG).refuses("straightest 0 " + LEAST, WRONG);
        Story none = scene("Promise 25", "NONE if the river has not so many places.").looks("straightest 0 13", 0);
        none.refuses("straightest 0 14", NONE).refuses("straightest 0 61", NONE).call("flow 0 0", 13);
        none.looks("straightest 0 14", 0).refuses("straightest 0 15", NONE);
        Story shortest = story("Promise 25", "NONE if the river has not so many places.")
            .call("addRiver 12 0 0 1 0", 0);
        shortest.looks("straightest 0 1", 0).refuses("straightest 0 2", NONE).refuses("straightest 0 61", NONE);
    }

    private void straightestOfSeveral() {
        Story equal = sixty("Promise 25", "Returns the start of the stretch with the smallest bend, of several the smallest "
            + "start;", 1);
        for (int places = 1; places <= 61; places++) {
            equal.looks("straightest 0 " + places, 0);
        }
        Story last = sixty("Promise 25", "Returns the start of the stretch with the smallest bend,", 1)
            .call("undo", 0);
        last.loads("river a 0 0 5 0 " + SIXTY.substring(2) + "00;", 1).looks("straightest 0 3", 58)
            .looks("bend 0 58 3", 0);
        last.looks("straightest 0 2", 0).looks("straightest 0 60", 1).looks("straightest 0 4", 57)
            .looks("straightest 0 61", 0);
        Story first = story("Promise 25", "of several the smallest start;").call("addRiver 1 30 20 5 0", 0);
        first.flow(0, "0022446600").looks("straightest 0 3", 0).looks("straightest 0 4", 0)
            .looks("straightest 0 5", 0);
        first.looks("straightest 0 6", 0).looks("straightest 0 11", 0);
    }

    private void reason() {
        Story label = scene("Promise 26", "Tells whether a label may stand.").looks("reason 0 5", 0)
            .looks("reason 0 4", 2);
        label.looks("reason 1 5", 0).looks("reason 1 4", 2).refuses("reason 0 5", 0);
        scene("Promise 26", "river: a river").range("reason * 5", 0, 0, 1, 0);
        scene("Promise 26", "start: 0 to 60").range("reason 0 *", 0, 2, 60, 1);
        sixty("Promise 26", "start: 0 to 60", 1).range("reason 0 *", 0, 0, 60, 0);
        Story each = story("Promise 26", "Returns the reason for which it may not, or 0;")
            .call("addRiver 2 30 20 5 0", 0);
        each.looks("reason 0 0", 1).flow(0, "0").looks("reason 0 0", 0).looks("reason 0 1", 1)
            .looks("reason 0 60", 1);
        each.call("addRiver 1 31 20 5 0", 1).call("set 1 0", 0).looks("reason 0 0", 4).looks("reason 1 0", 2);
        each.call("addTown 30 20 1 1 5", 0).looks("reason 0 0", 3).call("remove 0", 0).looks("reason 0 0", 3);
        each.call("setTownRank 0 4", 5).looks("reason 0 0", 0).call("set 0 0", 0).looks("reason 0 0", 2);
        Story wrong = scene("Promise 26", "INVALID_ARGUMENT if an argument is out of range.")
            .refuses("reason 2 0", WRONG);
        wrong.refuses("reason -1 0", WRONG).refuses("reason 0 -1", WRONG).refuses("reason 0 61", WRONG)
            .refuses("reason 2 61", WRONG);
        story("Promise 26", "INVALID_ARGUMENT if an argument is out of range.").refuses("reason 0 0", WRONG);
    }

    private void best() {
        Story start = scene("Promise 27", "Returns the best start of a river.").looks("best 0 0", 5)
            .looks("best 1 0", 5);
        start.call("set 0 5", 3).refuses("best 0 0", NONE).call("remove 0", 3).looks("best 0 0", 0)
            .looks("best 0 1", 10);
        scene("Promise 27", "river: a river").range("best * 0", 0, 5, 1, 5);
        scene("Promise 27", "what: 0 the start, 1 its cost").range("best 0 *", 0, 5, 1, 0);
        Story number = sixty("Promise 27", "Returns the number;", 12).looks("best 0 0", 24).looks("best 0 1", 401);
        number.call("addRiver 1 0 39 1 0", 1).looks("best 1 0", 0).looks("best 1 1", 0);
        Story wrong = scene("Promise 27", "INVALID_ARGUMENT if an argument is out of range;")
            .refuses("best 2 0", WRONG);
        wrong.refuses("best -1 0", WRONG).refuses("best 0 2", WRONG).refuses("best 0 -1", WRONG)
            .refuses("best 2 2", WRONG);
        story("Promise 27", "INVALID_ARGUMENT if an argument is out of range;").refuses("best 0 0", WRONG);
        Story none = story("Promise 27", "NONE if no label of it may stand.").call("addRiver 3 30 20 5 0", 0);
        none.refuses("best 0 0", NONE).refuses("best 0 1", NONE).flow(0, "0").refuses("best 0 0", NONE).flow(0, "0");
        none.looks("best 0 0", 0).looks("best 0 1", 0).branch().call("addTown 32 20 1 1 5", 0)
            .refuses("best 0 0", NONE);
        none.branch().call("set 0 0", 0).refuses("best 0 0", NONE).refuses("best 0 1", NONE);
        none.branch().call("addRiver 1 31 20 5 0", 1).call("set 1 0", 0).refuses("best 0 0", NONE)
            .call("setRank 1 4", 5)
            .looks("best 0 0", 0);
    }

    private void rankFor() {
        Story rank = story("Promise 28", "Finds the smallest rank with which one more label of a river may stand somewhere, if "
            + "the river had this rank.").call("addRiver 2 30 20 9 1", 0);
        rank.refuses("rankFor 0", NONE).flow(0, "0").looks("rankFor 0", 1).call("addTown 30 20 1 1 1", 0);
        for (int town = 1; town <= 8; town++) {
            rank.looks("rankFor 0", town + 1).call("setTownRank 0 " + (town + 1), town);
        }
        rank.refuses("rankFor 0", NONE).flow(0, "000000").looks("rankFor 0", 1).looks("river 0 0", 9);
        rank.call("addTown 32 21 12 3 6", 1).looks("rankFor 0", 7);
        scene("Promise 28", "river: a river").range("rankFor *", 0, 1, 1, 1);
        Story bounds = story("Promise 28", "Returns the rank, 1 to 9;").call("addRiver 1 30 20 5 0", 0)
            .refuses("rankFor 0", 1);
        bounds.call("addTown 30 20 1 1 8", 0).refuses("rankFor 0", 9).call("setTownRank 0 9", 8)
            .refuses("rankFor 0", NONE);
        Story wrong = scene("Promise 28", "INVALID_ARGUMENT if there is no such river;").refuses("rankFor 2", WRONG);
        wrong.refuses("rankFor -1", WRONG).refuses("rankFor " + LEAST, WRONG).refuses("rankFor " + MOST, WRONG);
        story("Promise 28", "INVALID_ARGUMENT if there is no such river;").refuses("rankFor 0", WRONG);
        Story none = story("Promise 28", "NONE if there is none.").call("addRiver 2 30 20 5 0", 0)
            .refuses("rankFor 0", NONE);
        none.flow(0, "0").looks("rankFor 0", 1).call("set 0 0", 0).refuses("rankFor 0", NONE).call("remove 0", 0);
        none.call("addTown 31 20 1 1 9", 0).refuses("rankFor 0", NONE).call("setRank 0 9", 5)
            .refuses("rankFor 0", NONE);
    }

    private void rankForOfLabels() {
        Story rank = story("Promise 28", "Finds the smallest rank with which one more label of a river may stand somewhere, if "
            + "the river had this rank.").call("addRiver 1 30 20 5 0", 0).call("addRiver 1 31 20 1 1", 1).call("set 1 0", 0);
        for (int other = 1; other <= 8; other++) {
            rank.looks("rankFor 0", other + 1).call("setRank 1 " + (other + 1), other);
        }
        rank.refuses("rankFor 0", NONE).call("setHalo 1 0", 1).looks("rankFor 0", 1);
        Story full = story("Promise 28", "one more label of a river may stand somewhere").call("setGap 0", 10);
        full.call("addRiver 1 0 0 5 0", 0).flow(0, "0".repeat(20));
        for (int i = 0; i < 20; i++) {
            full.call("set 0 " + i, i);
        }
        full.refuses("rankFor 0", 1).refuses("set 0 20", FULL).call("addTown 20 0 1 1 3", 0).refuses("rankFor 0", 4);
        full.call("setGap 1", 0).refuses("rankFor 0", NONE);
    }
}
