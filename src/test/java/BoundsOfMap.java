/** The bounds that the section 'Map' of the document names. */
final class BoundsOfMap extends Bounds {
    private static final String MAP = "Map";
    private static final int[] RIGHT = {1, 1, 0, -1, -1, -1, 0, 1};
    private static final int[] DOWN = {0, 1, 1, 1, 0, -1, -1, -1};

    BoundsOfMap(Due due, Document document) {
        super(due, document);
    }

    @Override
    void tell() {
        columnsAndRows();
        uppermostRow();
        directions();
        mostRivers();
        mostRiversOfTexts();
        lettersOfNames();
        ranksOfRivers();
        halos();
        mostMoves();
        cellsOnTheMap();
        cellsComeToAgain();
        places();
        mostTowns();
        sizesOfTowns();
        ranksOfTowns();
    }

    private void columnsAndRows() {
        Story map = story(MAP, "The map has the columns 0 to 59 and the rows 0 to 39 of cells;");
        map.call("addRiver 1 0 0 1 0", 0).looks("cell 0 0", 0);
        map.call("addRiver 1 59 0 1 0", 1).looks("cell 1 0", 5900);
        map.call("addRiver 1 0 39 1 0", 2).looks("cell 2 0", 39);
        map.call("addRiver 1 59 39 1 0", 3).looks("cell 3 0", 5939);
        map.refuses("addRiver 1 -1 0 1 0", WRONG).refuses("addRiver 1 60 0 1 0", WRONG);
        map.refuses("addRiver 1 0 -1 1 0", WRONG).refuses("addRiver 1 0 40 1 0", WRONG);
        for (int river = 0; river < 4; river++) {
            map.call("set " + river + " 0", river);
        }
        map.looks("written 0 0", 'a').looks("written 59 0", 'a').looks("written 0 39", 'a')
            .looks("written 59 39", 'a');
        map.looks("written 1 1", NONE).looks("written 58 38", NONE);
        map.refuses("written -1 0", WRONG).refuses("written 60 0", WRONG);
        map.refuses("written 0 -1", WRONG).refuses("written 0 40", WRONG);
    }

    private void uppermostRow() {
        Story map = story(MAP, "row 0 is the uppermost one.");
        map.call("addRiver 1 5 1 1 0", 0).call("addRiver 1 5 38 1 0", 1);
        map.call("flow 0 6", 1).looks("cell 0 1", 500).refuses("flow 0 6", STATE);
        map.call("flow 0 2", 2).looks("cell 0 2", 501);
        map.call("flow 1 2", 1).looks("cell 1 1", 539).refuses("flow 1 2", STATE);
        map.call("flow 1 6", 2).looks("cell 1 2", 538);
    }

    private void directions() {
        Story map = story(MAP, "There are eight directions, numbered from 0: to the right, to the lower right, "
            + "downward, to the lower left, to the left, to the upper left, upward, and to the upper right.");
        map.call("addRiver 1 30 20 1 0", 0);
        int[] cells = {3120, 3121, 3021, 2921, 2920, 2919, 3019, 3119};
        for (int direction = 0; direction < 8; direction++) {
            map.branch().call("flow 0 " + direction, 1).looks("cell 0 1", cells[direction]);
            map.wouldLoad("river a 30 20 1 0 " + direction + ";", 1);
        }
        map.refuses("flow 0 8", WRONG).refuses("flow 0 -1", WRONG);
        map.rejects("river a 30 20 1 0 8;", 18);
    }

    private void mostRivers() {
        Story map = story(MAP, "There are at most 6 rivers, numbered from 0 in the order in which they were added.");
        map.refuses("river 0 0", WRONG);
        for (int river = 0; river < 6; river++) {
            map.call("addRiver 1 " + (10 + river) + " 20 5 0", river).looks("count 0", river + 1);
            map.looks("cell " + river + " 0", 1020 + 100 * river).looks("cell " + (river + 1) + " 0", WRONG);
        }
        map.refuses("addRiver 1 0 0 1 0", FULL).rejects("river a 0 0 1 0 0;", 0);
        map.looks("cell 0 0", 1020).looks("cell 5 0", 1520).looks("count 0", 6).looks("count 6", 63);
        map.call("undo", 4).looks("cell 5 0", WRONG).call("addRiver 2 0 0 1 0", 5).looks("river 5 2", 2);
    }

    private void mostRiversOfTexts() {
        Story map = story(MAP, "There are at most 6 rivers, numbered from 0 in the order in which they were added.");
        map.call("addRiver 3 9 9 9 0", 0).loads("river a 1 1 1 0 0;river b 2 2 2 0 0;river c 3 3 3 0 0;", 3);
        map.call("addRiver 3 8 8 8 0", 4);
        map.rejects("river d 4 4 4 0 0;river e 5 5 5 0 0;", 18);
        map.loads("river d 4 4 4 0 0;", 1);
        int[] ranks = {9, 1, 2, 3, 8, 4};
        for (int river = 0; river < 6; river++) {
            map.looks("river " + river + " 0", ranks[river]);
        }
        map.refuses("addRiver 1 0 0 1 0", FULL).rejects("river e 5 5 5 0 0;", 0);
    }

    private void lettersOfNames() {
        Story map = story(MAP, "A river has a name of 1 to 12 letters a to z,");
        map.call("addRiver 1 0 0 1 0", 0).looks("river 0 2", 1).looks("letter 0 0", 'a').looks("letter 0 1", NONE);
        map.call("addRiver 12 0 0 1 0", 1).looks("river 1 2", 12);
        map.looks("letter 1 0", 'a').looks("letter 1 11", 'l').looks("letter 1 12", NONE);
        map.refuses("addRiver 0 0 0 1 0", WRONG).refuses("addRiver 13 0 0 1 0", WRONG);
        map.loads("river z 0 0 1 0 0;", 1).looks("river 2 2", 1).looks("letter 2 0", 'z').looks("letter 2 1", NONE);
        map.loads("river azzzzzzzzzzz 0 0 1 0 0;", 1).looks("river 3 2", 12);
        map.looks("letter 3 0", 'a').looks("letter 3 11", 'z').looks("letter 3 12", NONE);
        map.rejects("river azzzzzzzzzzzz 0 0 1 0 0;", 6).rejects("river 0 0 0 1 0 0;", 6);
        map.rejects("river ` 0 0 1 0 0;", 6).rejects("river { 0 0 1 0 0;", 6);
    }

    private void ranksOfRivers() {
        Story map = story(MAP, "a rank from 1 to 9 (9 is the highest),");
        map.call("addRiver 1 30 20 1 0", 0).call("addRiver 1 30 20 9 0", 1);
        map.looks("river 0 0", 1).looks("river 1 0", 9);
        map.refuses("addRiver 1 30 20 0 0", WRONG).refuses("addRiver 1 30 20 10 0", WRONG);
        map.wouldLoad("river a 0 0 1 0 0;", 1).wouldLoad("river a 0 0 9 0 0;", 1);
        map.rejects("river a 0 0 0 0 0;", 12).rejects("river a 0 0 10 0 0;", 12);
        map.refuses("setRank 0 0", WRONG).refuses("setRank 0 10", WRONG);
        map.branch().call("place 1", 1).looks("label 0 0", 1);
        map.branch().call("set 1 0", 0).refuses("set 0 0", STATE).call("setRank 0 9", 1).refuses("set 0 0", STATE)
            .call("setRank 1 8", 9).call("set 0 0", 1);
    }

    private void halos() {
        Story map = story(MAP, "a halo from 0 to 2,");
        for (int halo = 0; halo <= 2; halo++) {
            map.call("addRiver 1 30 20 5 " + halo, halo).looks("river " + halo + " 1", halo);
            map.branch().call("set " + halo + " 0", 0).looks("label 0 5", (2 * halo + 1) * (2 * halo + 1));
            map.wouldLoad("river a 0 0 1 " + halo + " 0;", 1);
        }
        map.refuses("addRiver 1 30 20 5 -1", WRONG).refuses("addRiver 1 30 20 5 3", WRONG);
        map.refuses("setHalo 0 -1", WRONG).refuses("setHalo 0 3", WRONG);
        map.rejects("river a 0 0 1 3 0;", 14);
    }

    private void mostMoves() {
        String words = "a first cell, and at most 60 moves, each a direction that leads to a neighboring cell;";
        Story flows = story(MAP, words);
        flows.call("addRiver 1 30 20 5 0", 0).looks("river 0 3", 0).looks("cell 0 0", 3020).looks("cell 0 1", NONE);
        flows.flow(0, SIXTY).looks("river 0 3", 60).looks("cell 0 59", 3120).looks("cell 0 60", 3020);
        flows.refuses("flow 0 0", FULL);
        flows.call("setGap 9", 10).looks("cell 0 60", 3020).call("setGap 8", 9).looks("cell 0 60", 3020);
        flows.call("undo", 4).call("undo", 3).looks("cell 0 60", 3020).call("undo", 2).looks("cell 0 60", NONE);
        Story text = sixty(MAP, words, 1);
        text.looks("river 0 3", 60).looks("cell 0 59", 100).looks("cell 0 60", 0).refuses("flow 0 0", FULL);
        text.rejects("river a 0 0 5 0 " + SIXTY + "0;", 16);
        text.call("undo", 0)
            .loads("river a 0 0 5 0 " + SIXTY.substring(1).replace("4", "2").replace("0", "6") + ";", 1);
        text.looks("river 0 3", 59).call("flow 0 1", 60).refuses("flow 0 0", FULL);
    }

    /** Every direction from a cell at each side and in each corner. */
    private void cellsOnTheMap() {
        int[][] cells = {{0, 20}, {59, 20}, {30, 0}, {30, 39}, {0, 0}, {59, 0}, {0, 39}, {59, 39}};
        Story map = story(MAP, "all cells must lie on the map");
        for (int[] cell : cells) {
            Story one = map.branch().call("addRiver 1 " + cell[0] + " " + cell[1] + " 5 0", 0);
            for (int direction = 0; direction < 8; direction++) {
                int x = cell[0] + RIGHT[direction];
                int y = cell[1] + DOWN[direction];
                String text = "river a " + cell[0] + " " + cell[1] + " 5 0 ";
                if (x >= 0 && x <= 59 && y >= 0 && y <= 39) {
                    one.branch().call("flow 0 " + direction, 1).looks("cell 0 1", 100 * x + y);
                    one.branch().loads(text + direction + ";", 1).looks("cell 1 1", 100 * x + y);
                } else {
                    one.refuses("flow 0 " + direction, STATE).rejects(text + direction + ";", text.length());
                }
            }
        }
    }

    private void cellsComeToAgain() {
        Story map = story(MAP, "(a river may come to a cell several times).");
        map.call("addRiver 3 30 20 5 0", 0).flow(0, "0404").looks("river 0 5", 2);
        map.looks("cell 0 0", 3020).looks("cell 0 2", 3020).looks("cell 0 4", 3020);
        map.call("addRiver 3 30 20 5 0", 1).flow(1, "0246").looks("river 1 5", 4).looks("cell 1 4", 3020);
        map.call("set 0 0", 0).looks("label 0 5", 2);
    }

    private void places() {
        Story map = sixty(MAP, "With m moves the river has the places 0 to m, which are its first cell and the "
            + "cells behind its moves.", 1);
        map.looks("cell 0 0", 0).looks("cell 0 1", 100).looks("cell 0 59", 100).looks("cell 0 60", 0);
        map.refuses("cell 0 61", WRONG).refuses("cell 0 -1", WRONG);
        map.call("addRiver 1 30 20 5 0", 1).looks("cell 1 0", 3020).refuses("cell 1 1", NONE);
        map.call("flow 1 2", 1).looks("cell 1 1", 3021).refuses("cell 1 2", NONE);
        map.looks("reason 1 0", 0).looks("reason 1 1", 0).looks("reason 1 2", 1);
    }

    private void mostTowns() {
        Story map = story(MAP, "There are at most 10 towns, numbered from 0.");
        map.refuses("town 0 0", WRONG);
        for (int town = 0; town < 9; town++) {
            map.call("addTown " + town + " 0 1 1 5", town).looks("town " + town + " 0", town);
            map.looks("town " + (town + 1) + " 0", WRONG);
        }
        map.rejects("town 9 0 1 1 5;town 10 0 1 1 5;", 15).wouldLoad("town 9 0 1 1 5;", 1);
        map.call("addTown 9 0 1 1 5", 9).looks("town 9 0", 9).looks("town 0 0", 0).looks("count 1", 10);
        map.refuses("addTown 10 0 1 1 5", FULL).rejects("town 10 0 1 1 5;", 0).refuses("town 10 0", WRONG);
    }

    private void sizesOfTowns() {
        Story map = story(MAP, "A town is a rectangle of cells on the map, 1 to 12 wide and 1 to 3 high,");
        map.call("addTown 59 39 1 1 5", 0).call("addTown 48 37 12 3 5", 1).call("addTown 0 0 12 3 5", 2);
        map.looks("town 0 2", 1).looks("town 0 3", 1).looks("town 1 2", 12).looks("town 1 3", 3);
        map.refuses("addTown 30 20 0 1 5", WRONG).refuses("addTown 30 20 13 1 5", WRONG);
        map.refuses("addTown 30 20 1 0 5", WRONG).refuses("addTown 30 20 1 4 5", WRONG);
        for (int width = 1; width <= 12; width++) {
            map.branch().call("addTown " + (60 - width) + " 0 " + width + " 1 5", 3).looks("town 3 2", width);
            map.refuses("addTown " + (61 - width) + " 0 " + width + " 1 5", WRONG);
        }
        for (int height = 1; height <= 3; height++) {
            map.branch().call("addTown 0 " + (40 - height) + " 1 " + height + " 5", 3).looks("town 3 3", height);
            map.refuses("addTown 0 " + (41 - height) + " 1 " + height + " 5", WRONG);
        }
        map.refuses("addTown -1 0 1 1 5", WRONG).refuses("addTown 0 -1 1 1 5", WRONG);
        map.rejects("town 30 20 0 1 5;", 11).rejects("town 30 20 13 1 5;", 11);
        map.rejects("town 30 20 1 0 5;", 13).rejects("town 30 20 1 4 5;", 13);
    }

    private void ranksOfTowns() {
        Story map = story(MAP, "with a rank from 1 to 9.");
        map.call("addTown 30 20 1 1 1", 0).call("addTown 30 20 1 1 9", 1);
        map.looks("town 0 4", 1).looks("town 1 4", 9);
        map.refuses("addTown 30 20 1 1 0", WRONG).refuses("addTown 30 20 1 1 10", WRONG);
        map.refuses("setTownRank 0 0", WRONG).refuses("setTownRank 0 10", WRONG);
        map.wouldLoad("town 0 0 1 1 1;town 0 0 1 1 9;", 2);
        map.rejects("town 0 0 1 1 0;", 13).rejects("town 0 0 1 1 10;", 13);
    }
}
