/** The bounds that the sections 'Undo' and 'Errors' of the document name. */
final class BoundsOfUndo extends Bounds {
    private static final String UNDO = "Undo";
    private static final String ERRORS = "Errors";

    BoundsOfUndo(Due due, Document document) {
        super(due, document);
    }

    @Override
    void tell() {
        mostStates();
        sixthState();
        restoredState();
        stateWithoutText();
        actionsAreRecorded();
        actionsWithoutEffectAreRecorded();
        othersAreNotRecorded();
        latestStateIsRestored();
        errorsChangeNothing();
        firstErrorOfTexts();
        firstErrorOfRivers();
        firstErrorOfLabels();
        noneBehindErrors();
        meanings();
        lastOf512Calls();
    }

    private void mostStates() {
        Story undo = story(UNDO, "A history of at most 5 states is kept;").looks("count 8", 0).refuses("undo", STATE);
        for (int gap = 1; gap <= 8; gap++) {
            undo.call("setGap " + gap, gap == 1 ? 10 : gap - 1).looks("count 8", Math.min(gap, 5));
            undo.looks("undo", Math.min(gap, 5) - 1);
        }
        for (int left = 4; left >= 0; left--) {
            undo.call("undo", left).looks("count 8", left).looks("count 3", 3 + left);
        }
        undo.refuses("undo", STATE).looks("count 3", 3);
        undo.call("setGap 30", 3).looks("count 8", 1).call("undo", 0).looks("count 3", 3).refuses("undo", STATE);
    }

    private void sixthState() {
        Story undo = story(UNDO, "when a sixth one is recorded, the oldest one is dropped.");
        undo.call("setGap 1", 10).call("setGap 2", 1).call("setGap 3", 2).call("setGap 4", 3).call("setGap 5", 4);
        undo.branch().call("undo", 4).call("undo", 3).call("undo", 2).call("undo", 1).call("undo", 0)
            .looks("count 3", 10)
            .refuses("undo", STATE);
        undo.call("setGap 6", 5).looks("count 8", 5);
        undo.branch().call("undo", 4).call("undo", 3).call("undo", 2).call("undo", 1).call("undo", 0)
            .looks("count 3", 1)
            .refuses("undo", STATE);
        undo.call("addTown 0 0 1 1 1", 0).looks("count 8", 5);
        undo.call("undo", 4).looks("count 1", 0).looks("count 3", 6);
        undo.call("setGap 7", 6).looks("count 8", 5).call("undo", 4).looks("count 3", 6).call("undo", 3)
            .looks("count 3", 5);
        undo.call("undo", 2).call("undo", 1).call("undo", 0).looks("count 3", 2).refuses("undo", STATE);
    }

    private void restoredState() {
        Story undo = story(UNDO, "undo() removes the latest state from the history and restores it.");
        undo.refuses("undo", STATE);
        undo.call("addRiver 2 30 20 5 0", 0).flow(0, "00").call("set 0 1", 0).call("addTown 31 20 2 1 9", 0);
        undo.looks("count 8", 5).call("undo", 4).looks("count 1", 0).looks("count 2", 1).looks("label 0 6", 0);
        undo.call("undo", 3).looks("count 2", 0).looks("river 0 3", 2);
        undo.call("undo", 2).looks("river 0 3", 1).looks("cell 0 2", NONE);
        undo.call("undo", 1).looks("river 0 3", 0).call("undo", 0).looks("count 0", 0).refuses("undo", STATE);
    }

    private void stateWithoutText() {
        Story undo = story(UNDO, "a state is everything but the text and the history.");
        undo.write("town 1 1 1 1 1").call("setGap 3", 10).call("append 59", 15).call("undo", 0).looks("count 9", 15);
        undo.call("load", 1).looks("count 9", 0).call("undo", 0).looks("count 9", 0).looks("count 1", 0);
        undo.write("ab").call("setGap 4", 10).call("clearText", 2).call("undo", 0).looks("count 9", 0);
        undo.call("setGap 5", 10).write("x".repeat(150)).call("undo", 0).looks("count 9", 150)
            .refuses("append 1", FULL);
    }

    private void allActions(Story undo) {
        undo.isAction("load", 1).isAction("addRiver 12 0 0 9 2", 2).isAction("addTown 0 0 12 3 9", 2);
        undo.isAction("flow 0 2", 13).isAction("flow 1 0", 9).isAction("setRank 0 9", 5).isAction("setHalo 1 2", 0);
        undo.isAction("setTownRank 0 9", 4).isAction("setGap 60", 2).isAction("set 0 5", 3).isAction("remove 0", 2);
        undo.isAction("place 5", 6).isAction("place 1", 2);
    }

    private void actionsAreRecorded() {
        String words = "Every successful call of a method that is called an action records the state before it;";
        Story full = scene(UNDO, words);
        full.looks("count 8", 5);
        allActions(full);
        allActions(full.branch().call("undo", 4).call("set 0 10", 2));
        Story spare = full.branch().call("undo", 4).call("undo", 3).call("undo", 2).call("set 1 2", 0)
            .call("set 0 0", 1);
        spare.isAction("addTown 0 0 12 3 9", 2).isAction("remove 1", 1).isAction("set 0 10", 2)
            .isAction("flow 0 2", 13);
        full.branch().call("setGap 40", 2).isAction("tidy", 1);
        story(UNDO, words).write("river a 0 0 1 0 0;").isAction("load", 1).isAction("addRiver 1 0 0 1 0", 0)
            .isAction("addTown 0 0 1 1 1", 0).isAction("setGap 0", 10);
    }

    private void actionsWithoutEffectAreRecorded() {
        String words = "Every successful call of a method that is called an action records the state before it;";
        Story bare = story(UNDO, words).isAction("load", 0).isAction("place 1", 0).isAction("tidy", 0)
            .isAction("setGap 10", 10);
        bare.call("load", 0).looks("count 8", 1).call("tidy", 0).looks("count 8", 2).call("place 5", 0)
            .looks("count 8", 3);
        Story scene = scene(UNDO, words);
        scene.isAction("setRank 0 5", 5).isAction("setHalo 0 1", 1).isAction("setTownRank 1 9", 9)
            .isAction("setGap 2", 2);
        scene.isAction("tidy", 0);
    }

    private void othersAreNotRecorded() {
        Story undo = scene(UNDO, "a method that is called an action").call("undo", 4).looks("count 8", 4);
        undo.call("append 32", 16).looks("count 8", 4).call("clearText", 16).looks("count 8", 4);
        undo.refuses("count 7", 16).refuses("river 0 5", 13).refuses("cell 0 12", 2210);
        undo.refuses("letter 0 2", 'c').refuses("town 0 5", 0).refuses("label 0 6", 0).refuses("written 10 10", 'a');
        undo.refuses("bend 0 0 13", 0).refuses("straightest 0 13", 0).refuses("reason 0 5", 0).refuses("best 0 0", 5);
        undo.refuses("rankFor 0", 1).refuses("clearText", 0);
    }

    private void latestStateIsRestored() {
        Story undo = scene(UNDO, "undo() removes the latest state from the history and restores it.");
        undo.call("remove 0", 2).call("undo", 4).looks("label 0 1", 0).looks("label 1 0", 1).looks("label 2 1", 10);
        undo.call("undo", 3).looks("count 2", 2).call("undo", 2).looks("count 2", 1).call("undo", 1)
            .looks("count 2", 0);
        undo.looks("count 3", 2).call("undo", 0).looks("count 3", 10).refuses("undo", STATE);
        undo.call("set 0 0", 0).looks("count 8", 1).call("undo", 0).looks("count 2", 0).refuses("undo", STATE);
    }

    private void errorsChangeNothing() {
        Story error = scene(ERRORS, "A call that returns an error code changes nothing.");
        error.refuses("append 0", WRONG).refuses("addRiver 0 0 0 1 0", WRONG).refuses("addTown 60 0 1 1 1", WRONG);
        error.refuses("flow 2 0", WRONG).refuses("setRank 0 10", WRONG).refuses("setHalo 0 3", WRONG);
        error.refuses("setTownRank 2 1", WRONG).refuses("setGap 61", WRONG).refuses("set 0 61", WRONG);
        error.refuses("set 0 4", STATE).refuses("remove 3", WRONG).refuses("place 0", WRONG)
            .refuses("place 6", WRONG);
        error.refuses("count 10", WRONG).refuses("river 2 0", WRONG).refuses("cell 0 61", WRONG)
            .refuses("letter 0 -1", WRONG);
        error.refuses("town 2 0", WRONG).refuses("label 3 0", WRONG).refuses("written 60 0", WRONG);
        error.refuses("bend 0 0 62", WRONG).refuses("straightest 0 0", WRONG).refuses("reason 0 61", WRONG);
        error.refuses("best 0 2", WRONG).refuses("rankFor 2", WRONG);
        error.call("clearText", 15).write("town 0 0 1 1 5;river a 5 5 5 0 0;x").refuses("load", -1033);
        error.call("clearText", 34).write(" ".repeat(150)).refuses("append 32", FULL);
        story(ERRORS, "A call that returns an error code changes nothing.").write("x").refuses("undo", STATE);
    }

    private void firstErrorOfTexts() {
        String words = "If several error conditions apply, the method returns the one that its description lists first;";
        Story error = story(ERRORS, words).write("x".repeat(149));
        error.refuses("append 0", WRONG).call("append 255", 150).refuses("append 0", WRONG)
            .refuses("append 256", WRONG);
        error.refuses("append 1", FULL).refuses("append 255", FULL);
    }

    private void firstErrorOfRivers() {
        Story error = story(ERRORS, "If several error conditions apply, the method returns the one that its description "
            + "lists first;");
        error.loads("river a 0 0 5 0 " + SIXTY + ";", 1);
        error.refuses("flow 0 4", STATE).refuses("flow 0 0", FULL).refuses("flow 0 8", WRONG)
            .refuses("flow 1 4", WRONG);
        for (int river = 1; river < 6; river++) {
            error.call("addRiver 1 0 0 1 0", river);
        }
        error.refuses("addRiver 0 0 0 1 0", WRONG).refuses("addRiver 1 60 0 1 0", WRONG)
            .refuses("addRiver 1 0 40 1 0", WRONG);
        error.refuses("addRiver 1 0 0 10 0", WRONG).refuses("addRiver 1 0 0 1 3", WRONG)
            .refuses("addRiver 1 0 0 1 0", FULL);
        for (int town = 0; town < 10; town++) {
            error.call("addTown 0 0 1 1 1", town);
        }
        error.refuses("addTown 60 0 1 1 1", WRONG).refuses("addTown 0 0 1 1 0", WRONG)
            .refuses("addTown 59 0 2 1 1", WRONG);
        error.refuses("addTown 0 39 1 2 1", WRONG).refuses("addTown 0 0 1 1 1", FULL);
    }

    private void firstErrorOfLabels() {
        Story error = story(ERRORS, "If several error conditions apply, the method returns the one that its description "
            + "lists first;");
        error.call("setGap 0", 10).call("addRiver 1 0 0 5 0", 0).flow(0, "0".repeat(21))
            .call("addTown 21 0 1 1 9", 0);
        error.refuses("set 0 21", STATE).refuses("set 0 61", WRONG);
        for (int i = 0; i < 20; i++) {
            error.call("set 0 " + i, i);
        }
        error.refuses("set 0 20", FULL).refuses("set 0 21", STATE).refuses("set 0 19", STATE)
            .refuses("set 0 22", STATE);
        error.refuses("set 0 60", STATE).refuses("set 0 61", WRONG).refuses("set 0 -1", WRONG)
            .refuses("set 1 20", WRONG);
    }

    private void noneBehindErrors() {
        Story none = scene(ERRORS, "NONE is no error, and it is returned only if no error condition applies.");
        none.refuses("cell 0 13", NONE).refuses("cell 0 60", NONE).refuses("cell 0 61", WRONG)
            .refuses("cell 2 60", WRONG);
        none.refuses("cell -1 60", WRONG).refuses("letter 0 3", NONE).refuses("letter 2 3", WRONG)
            .refuses("letter 0 -1", WRONG);
        none.refuses("written 0 39", NONE).refuses("written 0 40", WRONG).refuses("written 60 39", WRONG);
        none.refuses("bend 0 60 61", NONE).refuses("bend 0 61 61", WRONG).refuses("bend 0 60 62", WRONG);
        none.refuses("bend 2 60 61", WRONG).refuses("bend 0 60 0", WRONG).refuses("bend 0 -1 61", WRONG);
        none.refuses("straightest 0 61", NONE).refuses("straightest 0 62", WRONG).refuses("straightest 2 61", WRONG);
        none.call("setGap 60", 2).refuses("best 0 0", NONE).refuses("best 0 1", NONE).refuses("best 0 2", WRONG);
        none.refuses("best 0 -1", WRONG).refuses("best 2 0", WRONG).refuses("rankFor 0", NONE)
            .refuses("rankFor 2", WRONG);
    }

    private void meanings() {
        Story wrong = scene(ERRORS, "The constants: INVALID_ARGUMENT = -1: An argument is out of range, or names "
            + "something that does not exist.");
        wrong.refuses("setGap 61", -1).refuses("remove 3", -1).refuses("flow 2 0", -1).refuses("setTownRank 2 1", -1);
        Story state = story(ERRORS, "ILLEGAL_STATE = -2: The call is not possible in the present state.");
        state.refuses("undo", -2).call("addRiver 2 0 0 1 0", 0).refuses("set 0 0", -2).refuses("flow 0 4", -2);
        Story full = story(ERRORS, "CAPACITY_EXCEEDED = -3: There is no room.").write("x".repeat(150));
        full.refuses("append 120", -3);
        Story none = story(ERRORS, "NONE = -9: There is no such value.");
        none.refuses("written 0 0", -9).call("addRiver 1 0 0 1 0", 0).refuses("cell 0 1", -9)
            .refuses("letter 0 1", -9);
    }

    private void lastOf512Calls() {
        Story calls = story("What it is", "An object is used for at most 512 calls after it has been made;");
        int made = 0;
        for (; made < 150; made++) {
            calls.call("append 32", made + 1);
        }
        calls.call("load", 0).call("addRiver 2 59 20 5 1", 0);
        made += 2;
        for (int move = 1; move <= 60; move++, made++) {
            calls.call("flow 0 " + (move % 2 == 1 ? 2 : 6), move);
        }
        calls.call("setGap 60", 10);
        made++;
        for (; made < 509; made++) {
            calls.call("setGap " + made % 2, made == 213 ? 60 : 1 - made % 2);
        }
        calls.call("place 5", 5).call("count 8", 5).call("undo", 4);
    }
}
