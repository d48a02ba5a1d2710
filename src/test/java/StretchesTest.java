/** Promises 24 to 28: bends, straight stretches, reasons, best starts and ranks. */
public final class StretchesTest {
    private static final int WRONG = RiverNames.INVALID_ARGUMENT;
    private static final int NONE = RiverNames.NONE;
    private static final Due due = new Due("StretchesTest");

    public static void main(String[] args) {
        promise24Bend();
        promise25Straightest();
        promise26Reason();
        promise26ReasonOrder();
        promise26ReasonAreas();
        promise27Best();
        promise27BestBesideOthers();
        promise28RankFor();
        promise28RankForOfSeveral();
        due.end();
    }

    private static void promise24Bend() {
        RiverNames x = due.named("a", 20, 20, 5, 0, "00170442");
        int[] turns = {0, 1, 2, 1, 4, 0, 2};
        for (int start = 0; start <= 8; start++) {
            due.is("bend(0, " + start + ", 1)", x.bend(0, start, 1), 0);
            due.is("bend(0, " + start + ", 2)", x.bend(0, start, 2), start <= 7 ? 0 : NONE);
            due.is("bend(0, " + start + ", 3)", x.bend(0, start, 3), start <= 6 ? turns[start] : NONE);
        }
        due.is("bend(0, 0, 9)", x.bend(0, 0, 9), 10);
        due.is("bend(0, 1, 5)", x.bend(0, 1, 5), 4);
        due.is("bend(0, 0, 10)", x.bend(0, 0, 10), NONE);
        due.is("bend(0, 1, 9)", x.bend(0, 1, 9), NONE);
        due.is("bend(0, 60, 61)", x.bend(0, 60, 61), NONE);
        due.is("bend(0, 9, 1)", x.bend(0, 9, 1), NONE);
        due.is("bend(0, -1, 1)", x.bend(0, -1, 1), WRONG);
        due.is("bend(0, 61, 1)", x.bend(0, 61, 1), WRONG);
        due.is("bend(0, 0, 0)", x.bend(0, 0, 0), WRONG);
        due.is("bend(0, 0, 62)", x.bend(0, 0, 62), WRONG);
        due.is("bend(1, 0, 1)", x.bend(1, 0, 1), WRONG);
        due.is("bend(-1, 0, 1)", x.bend(-1, 0, 1), WRONG);
        RiverNames y = due.named("a", 20, 20, 5, 0, "04".repeat(30));
        due.is("bend(0, 0, 61)", y.bend(0, 0, 61), 59 * 4);
        due.is("bend(0, 60, 1)", y.bend(0, 60, 1), 0);
        RiverNames z = due.named("a", 20, 20, 5, 0, "0503060107");
        int[] eights = {3, 3, 3, 3, 2, 2, 1, 1, 1};
        for (int start = 0; start < eights.length; start++) {
            due.is("bend(0, " + start + ", 3)", z.bend(0, start, 3), eights[start]);
        }
    }

    private static void promise25Straightest() {
        RiverNames x = due.named("a", 20, 20, 5, 0, "0122224566666");
        due.is("straightest(0, 1)", x.straightest(0, 1), 0);
        due.is("straightest(0, 2)", x.straightest(0, 2), 0);
        due.is("straightest(0, 3)", x.straightest(0, 3), 2);
        due.is("straightest(0, 5)", x.straightest(0, 5), 2);
        due.is("straightest(0, 6)", x.straightest(0, 6), 8);
        due.is("straightest(0, 7)", x.straightest(0, 7), 1 + 6);
        due.is("straightest(0, 14)", x.straightest(0, 14), 0);
        due.is("straightest(0, 15)", x.straightest(0, 15), NONE);
        due.is("straightest(0, 61)", x.straightest(0, 61), NONE);
        due.is("straightest(0, 0)", x.straightest(0, 0), WRONG);
        due.is("straightest(0, 62)", x.straightest(0, 62), WRONG);
        due.is("straightest(1, 1)", x.straightest(1, 1), WRONG);
        due.is("straightest(-1, 1)", x.straightest(-1, 1), WRONG);
        RiverNames y = due.named("a", 20, 20, 5, 0, "04".repeat(30));
        due.is("straightest(0, 61)", y.straightest(0, 61), 0);
        due.is("straightest(0, 60)", y.straightest(0, 60), 0);
    }

    private static void promise26Reason() {
        RiverNames x = due.named("abc", 10, 10, 5, 0, "00000000");
        due.is("reason(0, 0)", x.reason(0, 0), 0);
        due.is("reason(0, 6)", x.reason(0, 6), 0);
        due.is("reason(0, 7)", x.reason(0, 7), 1);
        due.is("reason(0, 60)", x.reason(0, 60), 1);
        due.is("reason(0, 61)", x.reason(0, 61), WRONG);
        due.is("reason(0, -1)", x.reason(0, -1), WRONG);
        due.is("reason(1, 0)", x.reason(1, 0), WRONG);
        due.is("reason(-1, 0)", x.reason(-1, 0), WRONG);
        x.setGap(0);
        x.set(0, 3);
        int[] reasons = {0, 2, 2, 2, 2, 2, 0, 1};
        for (int start = 0; start < reasons.length; start++) {
            due.is("reason(0, " + start + ") beside a label", x.reason(0, start), reasons[start]);
        }
        x.setGap(60);
        due.is("reason(0, 0) in the widest gap", x.reason(0, 0), 2);
        RiverNames y = due.named("ab", 10, 10, 1, 0, "00");
        due.is("reason(0, 0) of the lowest rank", y.reason(0, 0), 0);
        due.is("best(0, 0) of the lowest rank", y.best(0, 0), 0);
    }

    private static void promise26ReasonOrder() {
        RiverNames x = due.named("ab", 10, 10, 5, 0, "000000");
        Due.write(x, "river x 12 10 6 0 0;");
        x.load();
        x.setGap(0);
        x.set(1, 0);
        due.is("reason(0, 1) beside a higher river", x.reason(0, 1), 4);
        due.is("reason(0, 2) beside a higher river", x.reason(0, 2), 4);
        due.is("reason(0, 3)", x.reason(0, 3), 0);
        x.setRank(1, 4);
        due.is("reason(0, 2) over a lower river", x.reason(0, 2), 0);
        x.setRank(1, 5);
        due.is("reason(0, 2) over an equal river", x.reason(0, 2), 4);
        x.addTown(13, 10, 1, 1, 5);
        due.is("reason(0, 2) over a town, too", x.reason(0, 2), 3);
        due.is("reason(0, 1)", x.reason(0, 1), 4);
        x.set(0, 5);
        x.setGap(2);
        due.is("reason(0, 2) too near, too", x.reason(0, 2), 2);
        due.is("reason(0, 1)", x.reason(0, 1), 4);
        due.is("reason(0, 6) too short, too", x.reason(0, 6), 1);
        due.is("reason(1, 1) of a river beside its label", x.reason(1, 1), 2);
    }

    private static void promise26ReasonAreas() {
        RiverNames x = due.named("a", 10, 10, 5, 1, "0");
        Due.write(x, "river b 14 10 5 2 0;river c 13 13 5 1 0;");
        x.load();
        x.set(1, 0);
        due.is("reason(0, 0): halos that touch", x.reason(0, 0), 0);
        due.is("reason(0, 1): halos that overlap", x.reason(0, 1), 4);
        x.setHalo(0, 2);
        due.is("reason(0, 0): halos that overlap", x.reason(0, 0), 4);
        x.remove(0);
        x.set(2, 0);
        due.is("reason(0, 0): a corner in common", x.reason(0, 0), 4);
        x.setHalo(2, 0);
        due.is("reason(0, 0): corners that touch", x.reason(0, 0), 0);
        x.setHalo(0, 0);
        x.addTown(5, 10, 5, 1, 9);
        due.is("reason(0, 0): a town that touches", x.reason(0, 0), 0);
        x.addTown(11, 8, 1, 2, 9);
        due.is("reason(0, 1): a town that touches", x.reason(0, 1), 0);
        x.setHalo(0, 1);
        due.is("reason(0, 1): a town in the halo", x.reason(0, 1), 3);
    }

    private static void promise27Best() {
        RiverNames x = due.named("abc", 10, 10, 5, 0, "000000000");
        due.is("best(0, 0)", x.best(0, 0), 3);
        due.is("best(0, 1)", x.best(0, 1), 1);
        due.is("best(0, 2)", x.best(0, 2), WRONG);
        due.is("best(0, -1)", x.best(0, -1), WRONG);
        due.is("best(1, 0)", x.best(1, 0), WRONG);
        due.is("best(-1, 0)", x.best(-1, 0), WRONG);
        RiverNames y = due.named("abc", 10, 10, 5, 0, "0000000010");
        due.is("best(0, 0) before a bend", y.best(0, 0), 4);
        due.is("best(0, 1) before a bend", y.best(0, 1), 0);
        RiverNames z = due.named("abcd", 10, 10, 5, 0, "010101000");
        due.is("best(0, 0) behind bends", z.best(0, 0), 6);
        due.is("best(0, 1) behind bends", z.best(0, 1), 6);
        RiverNames t = due.named("abcd", 10, 10, 5, 0, "00");
        due.is("best(0, 0) of too short a river", t.best(0, 0), NONE);
        due.is("best(0, 1) of too short a river", t.best(0, 1), NONE);
        t.flow(0, 0);
        due.is("best(0, 0) of a river just long enough", t.best(0, 0), 0);
    }

    private static void promise27BestBesideOthers() {
        RiverNames x = due.named("abc", 10, 10, 5, 0, "000000000");
        x.setGap(0);
        x.addTown(13, 10, 1, 1, 5);
        due.is("best(0, 0) beside a town", x.best(0, 0), 4);
        x.addTown(16, 10, 1, 1, 4);
        due.is("best(0, 0) over a lower town", x.best(0, 0), 4);
        x.setTownRank(1, 9);
        due.is("best(0, 0) beside a higher town", x.best(0, 0), 0);
        due.is("best(0, 1) beside a higher town", x.best(0, 1), 7);
        x.setRank(0, 6);
        due.is("best(0, 0) beside one town", x.best(0, 0), 3);
        x.set(0, 3);
        due.is("best(0, 0) beside its own label", x.best(0, 0), 0);
        x.addRiver(1, 12, 10, 6, 0);
        x.set(1, 0);
        due.is("best(0, 0) beside another river", x.best(0, 0), 7);
        x.setGap(2);
        due.is("best(0, 0) without room", x.best(0, 0), NONE);
    }

    private static void promise28RankFor() {
        RiverNames x = due.named("abc", 10, 10, 5, 0, "00");
        due.is("rankFor(0)", x.rankFor(0), 1);
        due.is("rankFor(1)", x.rankFor(1), WRONG);
        due.is("rankFor(-1)", x.rankFor(-1), WRONG);
        x.addTown(10, 10, 1, 1, 1);
        due.is("rankFor(0) over a town of rank 1", x.rankFor(0), 2);
        x.addTown(11, 10, 1, 1, 8);
        due.is("rankFor(0) over a town of rank 8", x.rankFor(0), 9);
        x.setTownRank(1, 9);
        due.is("rankFor(0) over a town of rank 9", x.rankFor(0), NONE);
        x.setTownRank(1, 6);
        x.addRiver(1, 12, 10, 7, 0);
        x.set(1, 0);
        due.is("rankFor(0) over a label of rank 7", x.rankFor(0), 8);
        due.is("rankFor(1) beside its own label", x.rankFor(1), NONE);
        x.setRank(0, 9);
        due.is("set(0, 0)", x.set(0, 0), 1);
        due.is("rankFor(0) beside its own label", x.rankFor(0), NONE);
        RiverNames y = due.named("abc", 10, 10, 5, 0, "0");
        due.is("rankFor(0) of too short a river", y.rankFor(0), NONE);
    }

    private static void promise28RankForOfSeveral() {
        RiverNames x = due.named("ab", 10, 10, 2, 1, "000000000");
        x.addTown(10, 12, 12, 1, 3);
        due.is("rankFor(0) beside the halo", x.rankFor(0), 1);
        x.setHalo(0, 2);
        due.is("rankFor(0) over a long town", x.rankFor(0), 4);
        x.addTown(8, 9, 6, 3, 7);
        due.is("rankFor(0) behind a higher town", x.rankFor(0), 4);
        x.addTown(16, 9, 6, 3, 5);
        due.is("rankFor(0) between towns", x.rankFor(0), 6);
        x.setRank(0, 9);
        x.set(0, 8);
        due.is("rankFor(0) beside a label", x.rankFor(0), NONE);
        x.setGap(4);
        due.is("rankFor(0) at the other end", x.rankFor(0), 8);
        x.setGap(0);
        due.is("rankFor(0) between the ends", x.rankFor(0), 6);
    }
}
