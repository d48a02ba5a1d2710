/** The bounds that the section 'Which labels may stand' of the document names. */
final class BoundsOfStanding extends Bounds {
    private static final String STANDING = "Which labels may stand";

    BoundsOfStanding(Due due, Document document) {
        super(due, document);
    }

    @Override
    void tell() {
        mostLabels();
        noReason();
        beforeOrBehind();
        howManyLabelsStand();
        notSoManyPlaces();
        tooNear();
        gaps();
        widestGaps();
        overTowns();
        overLabels();
        besideLabelsOfTheSameRiver();
        bestStarts();
        bestStartsAtTheEnds();
    }

    private void mostLabels() {
        Story label = story(STANDING, "At most 20 labels stand, numbered from 0 in the order in which they were set.");
        label.call("setGap 0", 10).call("addRiver 1 0 0 5 0", 0).flow(0, "0".repeat(21)).refuses("label 0 1", WRONG);
        for (int i = 0; i < 20; i++) {
            label.call("set 0 " + (19 - i), i).looks("label " + i + " 1", 19 - i).looks("count 2", i + 1);
        }
        label.refuses("set 0 20", FULL).refuses("label 20 1", WRONG).looks("label 0 1", 19).looks("label 19 1", 0);
        label.call("remove 7", 19).looks("label 6 1", 13).looks("label 7 1", 11).looks("label 18 1", 0);
        label.refuses("label 19 1", WRONG).call("set 0 20", 19).looks("label 19 1", 20).refuses("set 0 12", FULL);
    }

    private void noReason() {
        Story label = scene(STANDING, "A label of a river with a start may stand if none of these reasons applies to "
            + "it; the first that applies is its reason");
        label.looks("reason 0 5", 0).call("set 0 5", 3).looks("label 3 6", 0);
        label.looks("reason 0 60", 1).looks("reason 0 11", 1).looks("reason 0 10", 2).looks("reason 0 0", 2);
        Story all = story(STANDING, "the first that applies is its reason");
        all.call("addRiver 2 30 20 5 0", 0).call("addRiver 1 31 20 5 0", 1).flow(0, "000");
        all.call("set 0 2", 0).call("set 1 0", 1).call("addTown 31 20 1 1 5", 0);
        all.looks("reason 0 3", 1).looks("reason 0 0", 2).looks("reason 0 1", 2);
        all.call("remove 0", 1).looks("reason 0 3", 1).looks("reason 0 0", 3).looks("reason 0 1", 3)
            .looks("reason 0 2", 0);
        all.call("setTownRank 0 4", 5).looks("reason 0 0", 4).looks("reason 0 1", 4);
        all.call("setRank 1 4", 5).looks("reason 0 0", 0).looks("reason 0 1", 0);
    }

    private void beforeOrBehind() {
        String words = "(whether other labels were set before or behind it does not matter,";
        for (int first = 0; first < 2; first++) {
            int second = 1 - first;
            Story label = story(STANDING, words).call("addRiver 1 30 20 5 0", 0).call("addRiver 1 30 20 6 0", 1);
            label.call("setRank " + second + " 7", 5 + second).call("set " + first + " 0", 0)
                .call("set " + second + " 0", 1);
            label.looks("label 0 6", 4).looks("label 1 6", 0).looks("count 5", 1);
            label.call("setRank " + first + " 7", 5 + first).looks("label 0 6", 4).looks("label 1 6", 4);
            label.call("setRank " + first + " 8", 7).looks("label 0 6", 0).looks("label 1 6", 4);
        }
        Story same = story(STANDING, words).call("addRiver 1 30 20 5 0", 0).flow(0, "00").call("setGap 0", 10);
        same.call("set 0 0", 0).call("set 0 1", 1).call("setGap 1", 0).looks("label 0 6", 2).looks("label 1 6", 2);
    }

    private void howManyLabelsStand() {
        Story label = story(STANDING, "nor how many labels stand):");
        label.call("setGap 0", 10).call("addRiver 1 0 0 5 0", 0).flow(0, "0".repeat(20));
        label.call("addRiver 1 30 20 5 0", 1);
        for (int i = 0; i < 20; i++) {
            label.call("set 0 " + i, i).looks("reason 1 0", 0).looks("reason 0 20", 0);
        }
        label.refuses("set 0 20", FULL).refuses("set 1 0", FULL).looks("label 19 6", 0).looks("count 5", 0);
        label.looks("best 1 0", 0).looks("best 0 0", 20).looks("rankFor 1", 1);
    }

    private void notSoManyPlaces() {
        String words = "1: the river has not so many places;";
        for (int letters = 1; letters <= 12; letters += 11) {
            Story label = story(STANDING, words).call("addRiver " + letters + " 10 20 5 0", 0);
            label.flow(0, "0".repeat(letters - 1)).looks("reason 0 0", 0).looks("reason 0 1", 1);
            label.flow(0, "0").looks("reason 0 1", 0).looks("reason 0 2", 1).looks("reason 0 60", 1);
            label.call("undo", Math.min(5, letters + 1) - 1).looks("reason 0 1", 1).refuses("set 0 1", STATE);
        }
        story(STANDING, words).call("addRiver 12 10 20 5 0", 0).looks("reason 0 0", 1)
            .flow(0, "0000000000").looks("reason 0 0", 1).refuses("set 0 0", STATE);
        sixty(STANDING, words, 1).looks("reason 0 60", 0);
        sixty(STANDING, words, 2).looks("reason 0 59", 0).looks("reason 0 60", 1);
        sixty(STANDING, words, 12).looks("reason 0 49", 0).looks("reason 0 50", 1).looks("reason 0 60", 1);
    }

    private void tooNear() {
        Story label = sixty(STANDING, "2: another label of the same river stands (one with the same start, too) for "
            + "which the difference of both starts is less than n + G,", 2);
        label.call("set 0 20", 0).looks("reason 0 20", 2).refuses("set 0 20", STATE);
        label.looks("reason 0 8", 0).looks("reason 0 9", 2).refuses("set 0 9", STATE);
        label.looks("reason 0 32", 0).looks("reason 0 31", 2).refuses("set 0 31", STATE);
        label.call("set 0 8", 1).call("set 0 32", 2).looks("count 5", 0);
        label.looks("label 0 6", 0).looks("label 1 6", 0).looks("label 2 6", 0);
        label.call("setGap 11", 10).looks("count 5", 3).looks("label 0 6", 2);
        label.call("addRiver 2 0 0 6 0", 1).flow(1, "0").looks("reason 1 0", 0);
    }

    private void gaps() {
        Story label = sixty(STANDING, "where G is the gap, 0 to 60 (at first 10);", 3);
        label.looks("count 3", 10).call("set 0 30", 0);
        label.looks("reason 0 18", 2).looks("reason 0 17", 0).looks("reason 0 42", 2).looks("reason 0 43", 0);
        label.call("setGap 0", 10).looks("reason 0 30", 2);
        label.looks("reason 0 28", 2).looks("reason 0 27", 0).looks("reason 0 32", 2).looks("reason 0 33", 0);
        label.call("setGap 1", 0).looks("reason 0 27", 2).looks("reason 0 26", 0);
        label.refuses("setGap -1", WRONG).refuses("setGap 61", WRONG);
        label.call("setGap 60", 1).looks("reason 0 0", 2).looks("reason 0 58", 2).looks("reason 0 59", 1);
    }

    private void widestGaps() {
        Story label = sixty(STANDING, "where G is the gap, 0 to 60", 1).call("set 0 0", 0);
        label.call("setGap 58", 10).looks("reason 0 58", 2).looks("reason 0 59", 0).looks("reason 0 60", 0);
        label.call("setGap 59", 58).looks("reason 0 59", 2).looks("reason 0 60", 0);
        label.branch().call("set 0 60", 1).looks("count 5", 0).call("setGap 60", 59).looks("count 5", 2);
        label.call("setGap 60", 59).looks("reason 0 60", 2).looks("best 0 0", NONE).refuses("set 0 60", STATE);
    }

    private void overTowns() {
        String words = "3: its area has a cell in common with the area of a town whose rank is at least that of the "
            + "river;";
        for (int rank = 1; rank <= 9; rank += 4) {
            Story label = story(STANDING, words).call("addRiver 1 30 20 " + rank + " 1", 0);
            for (int town = Math.max(1, rank - 1); town <= Math.min(9, rank + 1); town++) {
                int due = town >= rank ? 3 : 0;
                label.branch().call("addTown 31 21 12 3 " + town, 0).looks("reason 0 0", due);
                label.branch().call("addTown 18 17 12 3 " + town, 0).looks("reason 0 0", due);
                label.branch().call("addTown 30 20 1 1 " + town, 0).looks("reason 0 0", due);
                label.branch().call("set 0 0", 0).call("addTown 30 20 1 1 " + town, 0).looks("label 0 6", due);
            }
            label.branch().call("addTown 32 21 12 3 9", 0).looks("reason 0 0", 0);
            label.branch().call("addTown 31 22 12 3 9", 0).looks("reason 0 0", 0);
            label.branch().call("addTown 17 17 12 3 9", 0).looks("reason 0 0", 0);
            label.branch().call("addTown 18 16 12 3 9", 0).looks("reason 0 0", 0);
        }
        Story ends = story(STANDING, words).call("addRiver 3 30 20 5 0", 0).flow(0, "000");
        ends.branch().call("addTown 33 20 1 1 9", 0).looks("reason 0 0", 0).looks("reason 0 1", 3)
            .looks("best 0 0", 0).looks("rankFor 0", 1);
        ends.branch().call("addTown 30 20 1 1 9", 0).looks("reason 0 0", 3).looks("reason 0 1", 0)
            .looks("best 0 0", 1).looks("rankFor 0", 1);
        Story last = story(STANDING, words).call("addRiver 3 30 20 5 0", 0).flow(0, "000");
        for (int town = 0; town < 9; town++) {
            last.call("addTown 30 20 4 1 4", town).looks("reason 0 0", 0);
        }
        last.call("addTown 32 20 1 1 5", 9).looks("reason 0 0", 3).looks("reason 0 1", 3);
        last.call("setTownRank 9 4", 5).looks("reason 0 0", 0);
    }

    private void overLabels() {
        String words = "4: its area has a cell in common with the area of a label of another river whose rank is at "
            + "least that of its river.";
        for (int halo = 0; halo <= 2; halo++) {
            for (int other = 0; other <= 2; other++) {
                int reach = halo + other;
                Story label = story(STANDING, words).call("addRiver 1 30 20 5 " + halo, 0);
                for (int beyond = 0; beyond <= 1; beyond++) {
                    int due = beyond == 0 ? 4 : 0;
                    int far = reach + beyond;
                    String end = " 5 " + other;
                    label.branch().call("addRiver 1 " + (30 + far) + " " + (20 + reach) + end, 1).call("set 1 0", 0)
                        .looks("reason 0 0", due);
                    label.branch().call("addRiver 1 " + (30 - reach) + " " + (20 - far) + end, 1).call("set 1 0", 0)
                        .looks("reason 0 0", due);
                }
            }
        }
        overEndsOfLabels(words);
        for (int rank = 1; rank <= 9; rank += 4) {
            Story label = story(STANDING, words).call("addRiver 1 30 20 " + rank + " 0", 0);
            for (int other = Math.max(1, rank - 1); other <= Math.min(9, rank + 1); other++) {
                label.branch().call("addRiver 1 30 20 " + other + " 0", 1).looks("reason 0 0", 0).call("set 1 0", 0)
                    .looks("reason 0 0", other >= rank ? 4 : 0);
            }
        }
    }

    /** A label with letters on the columns 32 to 34 of a river that has the columns 30 to 36. */
    private void overEndsOfLabels(String words) {
        Story label = story(STANDING, words).call("addRiver 3 30 20 5 0", 0).flow(0, "000000").call("set 0 2", 0);
        for (int column = 30; column <= 36; column++) {
            int due = column >= 32 && column <= 34 ? 4 : 0;
            label.branch().call("addRiver 1 " + column + " 20 5 0", 1).looks("reason 1 0", due)
                .looks("best 1 0", due == 0 ? 0 : NONE).looks("rankFor 1", due == 0 ? 1 : 6)
                .call("setRank 1 6", 5).call("set 1 0", 1).looks("label 0 6", due);
        }
    }

    private void besideLabelsOfTheSameRiver() {
        Story label = story(STANDING, "a label of another river");
        label.call("addRiver 2 30 20 1 2", 0).flow(0, "040").call("setGap 0", 10).call("set 0 0", 0);
        label.looks("reason 0 2", 0).call("set 0 2", 1).looks("label 0 6", 0).looks("label 1 6", 0)
            .looks("count 5", 0);
    }

    private void bestStarts() {
        Story label = story(STANDING, "The best start of a river is the one with the smallest cost of all labels of it "
            + "that may stand, of several the smallest start.");
        label.call("addRiver 3 10 20 5 0", 0).looks("best 0 0", NONE).flow(0, "0").looks("best 0 0", NONE);
        label.flow(0, "0").looks("best 0 0", 0).looks("best 0 1", 0);
        label.flow(0, "0").looks("best 0 0", 0).looks("best 0 1", 1);
        label.flow(0, "0").looks("best 0 0", 1).looks("best 0 1", 0);
        label.flow(0, "00000").looks("best 0 0", 3).looks("best 0 1", 1);
        label.call("addTown 13 20 1 1 5", 0).looks("best 0 0", 4).looks("best 0 1", 1);
        label.call("setTownRank 0 4", 5).looks("best 0 0", 3);
    }

    private void bestStartsAtTheEnds() {
        Story label = sixty(STANDING, "The best start of a river is the one with the smallest cost of all labels of it "
            + "that may stand, of several the smallest start.", 1);
        label.looks("best 0 0", 30).looks("best 0 1", 0).call("setGap 59", 10);
        label.branch().call("set 0 0", 0).looks("best 0 0", 60).looks("best 0 1", 60);
        label.branch().call("set 0 60", 0).looks("best 0 0", 0).looks("best 0 1", 60);
        label.branch().call("set 0 30", 0).looks("best 0 0", NONE).looks("best 0 1", NONE);
        label.call("setGap 29", 59).call("set 0 30", 0).looks("best 0 0", 0).looks("best 0 1", 60);
        label.call("set 0 0", 1).looks("best 0 0", 60);
        Story last = story(STANDING, "The best start of a river is the one with the smallest cost of all labels of it");
        last.call("addRiver 1 0 0 5 0", 0).flow(0, "0".repeat(59) + "2").call("setGap 59", 10).call("set 0 0", 0);
        last.call("addTown 59 1 1 1 4", 0).looks("best 0 0", 60).looks("best 0 1", 60).looks("rankFor 0", 5);
        last.call("setTownRank 0 5", 4).looks("best 0 0", NONE).looks("reason 0 60", 3).looks("rankFor 0", 6);
        last.call("setTownRank 0 9", 5).looks("best 0 0", NONE).looks("rankFor 0", NONE).refuses("set 0 60", STATE);
    }
}
