/** Promises 12 to 16: setting and removing labels, and undo. */
public final class LabelsTest {
    private static final int WRONG = RiverNames.INVALID_ARGUMENT;
    private static final int STATE = RiverNames.ILLEGAL_STATE;
    private static final int FULL = RiverNames.CAPACITY_EXCEEDED;
    private static final Due due = new Due("LabelsTest");

    public static void main(String[] args) {
        promise12SetAndPlaces();
        promise12SetAndGap();
        promise12SetAndTowns();
        promise12SetAndOtherRivers();
        promise12SetWhenFull();
        promise13Remove();
        promise14PlaceRepeats();
        promise14PlaceByRank();
        promise14PlaceUpTo20();
        promise14PlaceBesideLabelsSet();
        promise15Tidy();
        promise15TidyAfterRanks();
        promise15TidyBetween();
        promise16Undo();
        promise16UndoRestoresEverything();
        due.end();
    }

    /** A river of rank 5 along row 5 from column 5 to 14, with three letters. */
    private static RiverNames straight() {
        RiverNames x = new RiverNames();
        x.addRiver(3, 5, 5, 5, 0);
        Due.flow(x, 0, "000000000");
        return x;
    }

    private static void starts(RiverNames x, int... starts) {
        due.is("count(2)", x.count(2), starts.length);
        for (int i = 0; i < starts.length; i++) {
            due.is("label(" + i + ", 1)", x.label(i, 1), starts[i]);
        }
    }

    private static void promise12SetAndPlaces() {
        due.is("set(0, 0) without rivers", new RiverNames().set(0, 0), WRONG);
        RiverNames x = straight();
        due.is("set(1, 0)", x.set(1, 0), WRONG);
        due.is("set(-1, 0)", x.set(-1, 0), WRONG);
        due.is("set(0, -1)", x.set(0, -1), WRONG);
        due.is("set(0, 61)", x.set(0, 61), WRONG);
        due.is("set(0, 60)", x.set(0, 60), STATE);
        due.is("set(0, 8)", x.set(0, 8), STATE);
        due.is("count(8)", x.count(8), 5);
        due.is("set(0, 7)", x.set(0, 7), 0);
        due.is("label(0, 0)", x.label(0, 0), 0);
        starts(x, 7);
        due.is("undo()", x.undo(), 4);
        due.is("count(2)", x.count(2), 0);
    }

    private static void promise12SetAndGap() {
        RiverNames x = straight();
        x.set(0, 7);
        due.is("set(0, 0) in the first gap", x.set(0, 0), STATE);
        x.setGap(0);
        due.is("set(0, 7) again", x.set(0, 7), STATE);
        due.is("set(0, 5)", x.set(0, 5), STATE);
        due.is("set(0, 4)", x.set(0, 4), 1);
        due.is("set(0, 1)", x.set(0, 1), 2);
        starts(x, 7, 4, 1);
        RiverNames y = straight();
        y.set(0, 0);
        y.setGap(4);
        due.is("set(0, 6) with the gap 4", y.set(0, 6), STATE);
        due.is("set(0, 7) with the gap 4", y.set(0, 7), 1);
    }

    private static void promise12SetAndTowns() {
        RiverNames x = straight();
        x.addTown(2, 6, 3, 1, 5);
        x.addTown(30, 5, 1, 1, 9);
        due.is("set(0, 0) beside a town", x.set(0, 0), 0);
        x.remove(0);
        x.setHalo(0, 1);
        due.is("set(0, 0) over a town", x.set(0, 0), STATE);
        due.is("set(0, 1) beside a town", x.set(0, 1), 0);
        x.remove(0);
        x.setRank(0, 6);
        due.is("set(0, 0) over a lower town", x.set(0, 0), 0);
        RiverNames y = straight();
        y.addTown(7, 3, 1, 3, 6);
        due.is("set(0, 1) over a higher town", y.set(0, 1), STATE);
        due.is("set(0, 3)", y.set(0, 3), 0);
    }

    private static void promise12SetAndOtherRivers() {
        RiverNames x = straight();
        x.addRiver(1, 7, 6, 5, 0);
        due.is("set(1, 0)", x.set(1, 0), 0);
        due.is("set(0, 1) beside a label", x.set(0, 1), 1);
        x.remove(1);
        x.setHalo(1, 1);
        due.is("set(0, 1) in the halo of a label", x.set(0, 1), STATE);
        x.setRank(1, 4);
        due.is("set(0, 1) in the halo of a lower label", x.set(0, 1), 1);
        x.remove(0);
        due.is("set(1, 0) over a higher label", x.set(1, 0), STATE);
        x.setRank(1, 6);
        due.is("set(1, 0) over a lower label", x.set(1, 0), 1);
    }

    private static void promise12SetWhenFull() {
        RiverNames x = new RiverNames();
        x.addRiver(1, 0, 0, 5, 0);
        Due.flow(x, 0, "0".repeat(30));
        x.setGap(0);
        for (int i = 0; i < 20; i++) {
            due.is("set(0, " + i + ")", x.set(0, i), i);
        }
        due.is("reason(0, 20) with 20 labels", x.reason(0, 20), 0);
        due.is("set(0, 20) with 20 labels", x.set(0, 20), FULL);
        due.is("set(0, 19) with 20 labels", x.set(0, 19), STATE);
        due.is("set(0, 61) with 20 labels", x.set(0, 61), WRONG);
        due.is("count(2)", x.count(2), 20);
        due.is("best(0, 0) with 20 labels", x.best(0, 0), 20);
    }

    private static void promise13Remove() {
        RiverNames x = straight();
        due.is("remove(0) of none", x.remove(0), WRONG);
        x.setGap(0);
        x.set(0, 0);
        x.set(0, 3);
        x.set(0, 6);
        due.is("remove(3)", x.remove(3), WRONG);
        due.is("remove(-1)", x.remove(-1), WRONG);
        starts(x, 0, 3, 6);
        due.is("remove(1)", x.remove(1), 2);
        starts(x, 0, 6);
        due.is("set(0, 3)", x.set(0, 3), 2);
        due.is("remove(0)", x.remove(0), 2);
        starts(x, 6, 3);
        due.is("remove(1)", x.remove(1), 1);
        due.is("remove(0)", x.remove(0), 0);
        due.is("undo()", x.undo(), 4);
        starts(x, 6);
        promise13RemoveOf20();
    }

    private static void promise13RemoveOf20() {
        RiverNames x = new RiverNames();
        x.addRiver(1, 0, 0, 5, 0);
        Due.flow(x, 0, "0".repeat(30));
        x.setGap(0);
        for (int i = 0; i < 20; i++) {
            x.set(0, i);
        }
        due.is("remove(5) of 20", x.remove(5), 19);
        due.is("remove(19) of 19", x.remove(19), WRONG);
        due.is("remove(18) of 19", x.remove(18), 18);
        due.is("label(4, 1)", x.label(4, 1), 4);
        due.is("label(5, 1)", x.label(5, 1), 6);
        due.is("label(17, 1)", x.label(17, 1), 18);
        for (int i = 0; i < 6; i++) {
            x.remove(0);
            due.is("set(0, 25) behind a removal", x.set(0, 25), 17);
            due.is("label(16, 1)", x.label(16, 1), 18);
            x.undo();
            x.undo();
        }
        due.is("remove(0)", x.remove(0), 17);
    }

    private static void promise14PlaceRepeats() {
        RiverNames x = new RiverNames();
        due.is("place(1) without rivers", x.place(1), 0);
        due.is("count(8)", x.count(8), 1);
        x.addRiver(1, 0, 0, 5, 0);
        Due.flow(x, 0, "000000000");
        x.setGap(1);
        due.is("place(0)", x.place(0), WRONG);
        due.is("place(6)", x.place(6), WRONG);
        due.is("place(3)", x.place(3), 3);
        starts(x, 4, 6, 2);
        due.is("place(5)", x.place(5), 5);
        starts(x, 4, 6, 2, 8, 0);
        x.setGap(3);
        due.is("place(5) in a wider gap", x.place(5), 3);
        starts(x, 4, 8, 0);
        due.is("undo()", x.undo(), 4);
        starts(x, 4, 6, 2, 8, 0);
        due.is("place(1)", x.place(1), 1);
        starts(x, 4);
    }

    private static void promise14PlaceByRank() {
        RiverNames x = new RiverNames();
        for (int i = 0; i < 3; i++) {
            x.addRiver(3, 5, 5 + i / 2, 5, 0);
            Due.flow(x, i, "00");
        }
        due.is("place(2)", x.place(2), 2);
        due.is("label(0, 0)", x.label(0, 0), 0);
        due.is("label(1, 0)", x.label(1, 0), 2);
        x.setRank(1, 6);
        due.is("place(2)", x.place(2), 2);
        due.is("label(0, 0)", x.label(0, 0), 1);
        due.is("label(1, 0)", x.label(1, 0), 2);
        x.setRank(2, 9);
        x.setHalo(2, 1);
        due.is("place(2)", x.place(2), 1);
        due.is("label(0, 0)", x.label(0, 0), 2);
        due.is("count(6)", x.count(6), 3);
    }

    private static void promise14PlaceUpTo20() {
        RiverNames x = new RiverNames();
        x.setGap(0);
        for (int i = 0; i < 6; i++) {
            x.addRiver(1, 0, 5 * i, i == 5 ? 9 : 1, 0);
            Due.flow(x, i, "0000000000");
        }
        due.is("place(5)", x.place(5), 20);
        due.is("label(0, 0)", x.label(0, 0), 5);
        due.is("label(4, 0)", x.label(4, 0), 5);
        due.is("label(5, 0)", x.label(5, 0), 0);
        due.is("label(19, 0)", x.label(19, 0), 2);
        due.is("count(6)", x.count(6), 8 + 16);
        due.is("place(3)", x.place(3), 18);
    }

    private static void promise14PlaceBesideLabelsSet() {
        RiverNames x = straight();
        x.set(0, 7);
        due.is("place(1)", x.place(1), 1);
        starts(x, 3);
        x.addTown(9, 5, 1, 1, 5);
        due.is("place(1) beside a town", x.place(1), 1);
        starts(x, 5);
        x.addTown(13, 5, 1, 1, 9);
        due.is("place(1) beside two towns", x.place(1), 1);
        starts(x, 5);
        x.addTown(12, 5, 1, 1, 9);
        due.is("place(1) beside three towns", x.place(1), 1);
        starts(x, 1);
        x.addTown(6, 5, 1, 1, 9);
        due.is("place(1) without room", x.place(1), 0);
    }

    private static void promise15Tidy() {
        RiverNames x = straight();
        due.is("tidy() of none", x.tidy(), 0);
        x.setGap(0);
        x.set(0, 0);
        x.set(0, 3);
        x.set(0, 6);
        due.is("tidy()", x.tidy(), 0);
        due.is("count(8)", x.count(8), 5);
        x.setGap(1);
        due.is("count(5)", x.count(5), 3);
        due.is("tidy()", x.tidy(), 2);
        starts(x, 6);
        due.is("undo()", x.undo(), 4);
        starts(x, 0, 3, 6);
        RiverNames y = straight();
        y.setGap(0);
        y.set(0, 3);
        y.set(0, 0);
        y.set(0, 6);
        y.setGap(1);
        due.is("count(5)", y.count(5), 3);
        due.is("tidy()", y.tidy(), 1);
        starts(y, 0, 6);
        due.is("count(5)", y.count(5), 0);
    }

    private static void promise15TidyAfterRanks() {
        RiverNames x = straight();
        x.addRiver(2, 6, 4, 7, 0);
        Due.flow(x, 1, "1");
        due.is("set(0, 0)", x.set(0, 0), 0);
        due.is("set(1, 0)", x.set(1, 0), 1);
        due.is("label(0, 6)", x.label(0, 6), 4);
        due.is("label(1, 6)", x.label(1, 6), 0);
        due.is("tidy()", x.tidy(), 1);
        due.is("label(0, 0)", x.label(0, 0), 1);
        x.undo();
        x.setRank(1, 5);
        due.is("count(5) with equal ranks", x.count(5), 2);
        due.is("tidy() with equal ranks", x.tidy(), 1);
        due.is("label(0, 0)", x.label(0, 0), 1);
        x.addTown(7, 5, 1, 1, 5);
        due.is("label(0, 6)", x.label(0, 6), 3);
        due.is("tidy() over a town", x.tidy(), 1);
        due.is("count(2)", x.count(2), 0);
    }

    private static void promise15TidyBetween() {
        RiverNames x = straight();
        x.setGap(0);
        x.set(0, 6);
        x.set(0, 0);
        x.set(0, 3);
        x.addTown(6, 5, 1, 1, 8);
        due.is("label(1, 6)", x.label(1, 6), 3);
        due.is("tidy() of the middle one", x.tidy(), 1);
        starts(x, 6, 3);
        x.addTown(8, 4, 1, 2, 8);
        due.is("tidy() of the last one", x.tidy(), 1);
        starts(x, 6);
    }

    private static void promise16Undo() {
        RiverNames x = new RiverNames();
        due.is("undo()", x.undo(), STATE);
        for (int gap = 1; gap <= 8; gap++) {
            x.setGap(gap);
            due.is("count(8)", x.count(8), Math.min(gap, 5));
        }
        for (int left = 4; left >= 0; left--) {
            due.is("undo()", x.undo(), left);
            due.is("count(3)", x.count(3), 3 + left);
            due.is("count(8)", x.count(8), left);
        }
        due.is("undo() of none", x.undo(), STATE);
        due.is("count(3)", x.count(3), 3);
        x.setGap(20);
        x.setGap(21);
        due.is("undo()", x.undo(), 1);
        x.setGap(22);
        due.is("undo()", x.undo(), 1);
        due.is("count(3)", x.count(3), 20);
        due.is("undo()", x.undo(), 0);
        due.is("count(3)", x.count(3), 3);
    }

    private static void promise16UndoRestoresEverything() {
        RiverNames x = straight();
        x.addTown(5, 6, 1, 1, 3);
        x.place(1);
        Due.write(x, "town 0 0 1 1 1;river ab 0 0 1 0 00;");
        due.is("load()", x.load(), 2);
        x.setTownRank(0, 8);
        x.setHalo(0, 2);
        x.flow(0, 2);
        x.remove(0);
        due.is("undo()", x.undo(), 4);
        starts(x, 3);
        due.is("undo()", x.undo(), 3);
        due.is("river(0, 3)", x.river(0, 3), 9);
        due.is("cell(0, 10)", x.cell(0, 10), RiverNames.NONE);
        due.is("undo()", x.undo(), 2);
        due.is("river(0, 1)", x.river(0, 1), 0);
        due.is("undo()", x.undo(), 1);
        due.is("town(0, 4)", x.town(0, 4), 3);
        Due.write(x, "abc");
        due.is("undo()", x.undo(), 0);
        due.is("count(0)", x.count(0), 1);
        due.is("count(1)", x.count(1), 1);
        due.is("undo() keeps the text", x.count(9), 3);
        starts(x, 3);
    }
}
