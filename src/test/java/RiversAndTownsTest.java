/** Promises 1 to 11: a new object, the text, rivers and towns. */
public final class RiversAndTownsTest {
    private static final int WRONG = RiverNames.INVALID_ARGUMENT;
    private static final int STATE = RiverNames.ILLEGAL_STATE;
    private static final int FULL = RiverNames.CAPACITY_EXCEEDED;
    private static final int NONE = RiverNames.NONE;
    private static final Due due = new Due("RiversAndTownsTest");

    public static void main(String[] args) {
        promise01NewObject();
        promise02Append();
        promise03ClearText();
        promise04LoadGoodTexts();
        promise04LoadErrors();
        promise04LoadIsOneAction();
        promise04LoadWhenFull();
        promise05AddRiver();
        promise05NewRiverForgetsAnUndoneOne();
        promise06AddTown();
        promise07Flow();
        promise08SetRank();
        promise09SetHalo();
        promise10SetTownRank();
        promise11SetGap();
        due.end();
    }

    private static void promise01NewObject() {
        RiverNames x = new RiverNames();
        int[] counts = {0, 0, 0, 10, 0, 0, 0, 0, 0, 0};
        for (int what = 0; what < counts.length; what++) {
            due.is("new: count(" + what + ")", x.count(what), counts[what]);
        }
        due.is("new: river(0, 0)", x.river(0, 0), WRONG);
        due.is("new: town(0, 0)", x.town(0, 0), WRONG);
        due.is("new: label(0, 0)", x.label(0, 0), WRONG);
        due.is("new: written(0, 0)", x.written(0, 0), NONE);
        due.is("new: undo()", x.undo(), STATE);
        due.is("new: load()", x.load(), 0);
        due.is("INVALID_ARGUMENT", WRONG, -1);
        due.is("ILLEGAL_STATE", STATE, -2);
        due.is("CAPACITY_EXCEEDED", FULL, -3);
        due.is("NONE", NONE, -9);
    }

    private static void promise02Append() {
        RiverNames x = new RiverNames();
        int[] wrong = {0, -1, 256, Integer.MIN_VALUE, Integer.MAX_VALUE};
        for (int character : wrong) {
            due.is("append(" + character + ")", x.append(character), WRONG);
        }
        due.is("append(1)", x.append(1), 1);
        due.is("append(255)", x.append(255), 2);
        for (int length = 3; length <= 150; length++) {
            due.is("append(97)", x.append('a'), length);
        }
        due.is("append(97) to 150", x.append('a'), FULL);
        due.is("append(256) to 150", x.append(256), WRONG);
        due.is("append(0) to 150", x.append(0), WRONG);
        due.is("count(9)", x.count(9), 150);
        due.is("append is no action: count(8)", x.count(8), 0);
    }

    private static void promise03ClearText() {
        RiverNames x = new RiverNames();
        due.is("clearText() of none", x.clearText(), 0);
        Due.write(x, "town");
        due.is("clearText()", x.clearText(), 4);
        due.is("count(9)", x.count(9), 0);
        due.is("clearText() again", x.clearText(), 0);
        due.is("count(8)", x.count(8), 0);
        Due.write(x, " 0 0 1 1 1;");
        due.is("what was before is forgotten", x.load(), -1001);
    }

    private static int loaded(String text) {
        RiverNames x = new RiverNames();
        Due.write(x, text);
        int answer = x.load();
        due.is("count(8) behind load of \"" + text + "\"", x.count(8), answer >= 0 ? 1 : 0);
        due.is("count(9) behind load of \"" + text + "\"", x.count(9), answer >= 0 ? 0 : text.length());
        due.is("items of \"" + text + "\"", x.count(0) + x.count(1), Math.max(answer, 0));
        return answer;
    }

    private static void loads(String text, int want) {
        due.is("load() of \"" + text + "\"", loaded(text), want);
    }

    private static void promise04LoadGoodTexts() {
        loads("", 0);
        loads("   ", 0);
        loads("river ab 0 0 1 0 0;", 1);
        loads("river ab0 0 1 0 0;", 1);
        loads("  river  ab  0  0  1  0  0  ;  ", 1);
        loads("town1 2 3 1 5;", 1);
        loads("town 0 0 1 1 1;river river 0 0 1 0 0;river town 0 0 1 0 0;", 3);
        loads("river abcdefghijkl 0 0 9 2 0;", 1);
        loads("river a 59 39 1 0 4;", 1);
        loads("river a 0 0 1 0 04;", 1);
        loads("river a 0 0 1 0 " + "04".repeat(30) + ";", 1);
        loads("town 48 37 12 3 9;", 1);
        loads("town 59 39 1 1 1;", 1);

        RiverNames x = new RiverNames();
        Due.write(x, "town 12 9 4 1 6;river qz 3 10 5 1 0123;river b 20 4 7 0 45;");
        due.is("load()", x.load(), 3);
        due.is("town(0, 0)", x.town(0, 0), 12);
        due.is("town(0, 1)", x.town(0, 1), 9);
        due.is("town(0, 2)", x.town(0, 2), 4);
        due.is("town(0, 3)", x.town(0, 3), 1);
        due.is("town(0, 4)", x.town(0, 4), 6);
        due.is("river(0, 0)", x.river(0, 0), 5);
        due.is("river(0, 1)", x.river(0, 1), 1);
        due.is("river(0, 2)", x.river(0, 2), 2);
        due.is("river(0, 3)", x.river(0, 3), 4);
        due.is("letter(0, 0)", x.letter(0, 0), 'q');
        due.is("letter(0, 1)", x.letter(0, 1), 'z');
        int[] cells = {310, 410, 511, 512, 413};
        for (int place = 0; place < cells.length; place++) {
            due.is("cell(0, " + place + ")", x.cell(0, place), cells[place]);
        }
        due.is("river(1, 0)", x.river(1, 0), 7);
        due.is("letter(1, 0)", x.letter(1, 0), 'b');
        due.is("cell(1, 2)", x.cell(1, 2), 1803);
    }

    private static void promise04LoadErrors() {
        loads("riverab 0 0 1 0 0;", -1000);
        loads("tow", -1000);
        loads(" tow", -1001);
        loads("towns 0 0 1 1 1;", -1000);
        loads(";", -1000);
        loads("5", -1000);
        loads("River", -1000);
        loads("xiver a 0 0 1 0 0;", -1000);
        loads("rivex a 0 0 1 0 0;", -1000);
        loads("down 0 0 1 1 1;", -1000);
        loads("towm 0 0 1 1 1;", -1000);
        loads("rive r a 0 0 1 0 0;", -1000);
        loads("river a 0 0 1 0 a;", -1016);
        loads("\t", -1000);
        loads("town 0 0 1 1 1;\u00e9", -1015);
        loads("river", -1005);
        loads("river ", -1006);
        loads("river 5", -1006);
        loads("river;", -1005);
        loads("river abcdefghijklm 0 0 1 0 0;", -1006);
        loads("river Ab 0 0 1 0 0;", -1006);
        loads("river aB 0 0 1 0 0;", -1007);
        loads("river a b 0 0 1 0 0;", -1008);
        loads("river a -1 0 1 0 0;", -1008);
        loads("river a 60 0 1 0 0;", -1008);
        loads("river a 00 0 1 0 0;", -1008);
        loads("river a 05 0 1 0 0;", -1008);
        loads("river a 4294967296 0 1 0 0;", -1008);
        loads("river a 0 40 1 0 0;", -1010);
        loads("river a 0 0 0 0 0;", -1012);
        loads("river a 0 0 10 0 0;", -1012);
        loads("river a 0 0 01 0 0;", -1012);
        loads("river a 0 0 1 3 0;", -1014);
        loads("river a 0 0 1 00 0;", -1014);
        loads("river a 0 0 1 0;", -1015);
        loads("river a 0 0 1 0", -1015);
        loads("river a 0 0 1 0 8;", -1016);
        loads("river a 0 0 1 0 09;", -1016);
        loads("river a 0 0 1 0 4;", -1016);
        loads("river a 0 0 1 0 044;", -1016);
        loads("river a 59 5 1 0 0;", -1017);
        loads("river a 5 0 1 0 6;", -1016);
        loads("river a 5 39 1 0 2;", -1017);
        loads("river a 0 0 1 0 " + "04".repeat(30) + "0;", -1016);
        loads("river a 0 0 1 0 0", -1017);
        loads("river a 0 0 1 0 0 ", -1018);
        loads("river a 0 0 1 0 0 0;", -1018);
        loads("river a 0 0 1 0 0;;", -1018);
        loads("river a 0 0 1 0 0,", -1017);
        loads("town", -1004);
        loads("town a", -1005);
        loads("town 60 0 1 1 1;", -1005);
        loads("town 0 40 1 1 1;", -1007);
        loads("town 0 0 0 1 1;", -1009);
        loads("town 0 0 13 1 1;", -1009);
        loads("town 49 0 12 1 1;", -1010);
        loads("town 59 0 2 1 1;", -1010);
        loads("town 0 0 12 0 1;", -1012);
        loads("town 0 0 12 4 1;", -1012);
        loads("town 0 39 1 2 1;", -1012);
        loads("town 0 38 1 3 1;", -1012);
        loads("town 0 0 1 1 0;", -1013);
        loads("town 0 0 1 1 10;", -1013);
        loads("town 0 0 1 1 99999999999;", -1013);
        loads("town 0 0 1 1 1", -1014);
        loads("town 0 0 1 1 1 1;", -1015);
        loads("town 0 0 1 1 1;town 0 0 1 1 x;", -1028);
    }

    private static void promise04LoadIsOneAction() {
        RiverNames x = new RiverNames();
        Due.write(x, "town 0 0 1 1 1;town 0 0 1 1 2;river a 0 0 1 0 0;");
        due.is("load()", x.load(), 3);
        due.is("count(8)", x.count(8), 1);
        due.is("load() of none", x.load(), 0);
        due.is("count(8)", x.count(8), 2);
        Due.write(x, "town 0 0 1 1 1;x");
        due.is("load() of an error", x.load(), -1015);
        due.is("the text is kept", x.clearText(), 16);
        due.is("towns", x.count(1), 2);
        due.is("count(8)", x.count(8), 2);
        due.is("undo()", x.undo(), 1);
        due.is("towns", x.count(1), 2);
        due.is("undo()", x.undo(), 0);
        due.is("towns", x.count(1), 0);
        due.is("rivers", x.count(0), 0);
        due.is("the text does not come back", x.count(9), 0);
    }

    private static void promise04LoadWhenFull() {
        loads("river a 0 0 1 0 0;".repeat(6), 6);
        loads("river a 0 0 1 0 0;".repeat(7), -1108);
        loads("river a 0 0 1 0 0;".repeat(6) + " river 77", -1109);
        loads("town0 0 1 1 1;".repeat(10), 10);
        loads("town0 0 1 1 1;".repeat(10) + "town", -1140);

        RiverNames x = new RiverNames();
        for (int i = 0; i < 5; i++) {
            x.addRiver(1, 0, 0, 1, 0);
        }
        Due.write(x, "river a 0 0 1 0 0;river a 0 0 1 0 0;");
        due.is("load() of a seventh river", x.load(), -1018);
        due.is("rivers", x.count(0), 5);
        x.clearText();
        Due.write(x, "river a 1 1 1 0 0;town 0 0 1 1 1;");
        due.is("load() of a sixth river", x.load(), 2);
        due.is("cell(5, 0)", x.cell(5, 0), 101);
    }

    private static void promise05AddRiver() {
        RiverNames x = new RiverNames();
        int[][] wrong = {{0, 0, 0, 1, 0}, {13, 0, 0, 1, 0}, {1, -1, 0, 1, 0}, {1, 60, 0, 1, 0}, {1, 0, -1, 1, 0},
            {1, 0, 40, 1, 0}, {1, 0, 0, 0, 0}, {1, 0, 0, 10, 0}, {1, 0, 0, 1, -1}, {1, 0, 0, 1, 3}};
        for (int[] a : wrong) {
            due.is("addRiver" + java.util.Arrays.toString(a), x.addRiver(a[0], a[1], a[2], a[3], a[4]), WRONG);
        }
        due.is("count(0)", x.count(0), 0);
        due.is("count(8)", x.count(8), 0);
        due.is("addRiver(12, 59, 39, 9, 2)", x.addRiver(12, 59, 39, 9, 2), 0);
        due.is("addRiver(1, 0, 0, 1, 0)", x.addRiver(1, 0, 0, 1, 0), 1);
        due.is("count(8)", x.count(8), 2);
        due.is("cell(0, 0)", x.cell(0, 0), 5939);
        due.is("river(0, 0)", x.river(0, 0), 9);
        due.is("river(0, 1)", x.river(0, 1), 2);
        due.is("river(0, 2)", x.river(0, 2), 12);
        due.is("river(0, 3)", x.river(0, 3), 0);
        for (int i = 0; i < 12; i++) {
            due.is("letter(0, " + i + ")", x.letter(0, i), 'a' + i);
        }
        due.is("letter(1, 1)", x.letter(1, 1), NONE);
        for (int i = 2; i < 6; i++) {
            due.is("addRiver " + i, x.addRiver(1, 0, 0, 1, 0), i);
        }
        due.is("a seventh river", x.addRiver(1, 0, 0, 1, 0), FULL);
        due.is("a wrong seventh river", x.addRiver(0, 0, 0, 1, 0), WRONG);
        due.is("count(0)", x.count(0), 6);
        x.undo();
        due.is("undo() of an addRiver", x.count(0), 5);
    }

    private static void promise05NewRiverForgetsAnUndoneOne() {
        RiverNames x = new RiverNames();
        x.addRiver(12, 5, 5, 9, 2);
        Due.flow(x, 0, "000");
        for (int i = 0; i < 4; i++) {
            x.undo();
        }
        for (int letters = 8; letters >= 1; letters--) {
            due.is("addRiver(" + letters + ", 1, 1, 1, 0)", x.addRiver(letters, 1, 1, 1, 0), 0);
            due.is("river(0, 2)", x.river(0, 2), letters);
            due.is("river(0, 3)", x.river(0, 3), 0);
            due.is("cell(0, 1)", x.cell(0, 1), NONE);
            due.is("flow(0, 2)", x.flow(0, 2), 1);
            x.undo();
            x.undo();
        }
    }

    private static void promise06AddTown() {
        RiverNames x = new RiverNames();
        int[][] wrong = {{-1, 0, 1, 1, 1}, {60, 0, 1, 1, 1}, {0, -1, 1, 1, 1}, {0, 40, 1, 1, 1}, {0, 0, 0, 1, 1},
            {0, 0, 13, 1, 1}, {0, 0, 1, 0, 1}, {0, 0, 1, 4, 1}, {0, 0, 1, 1, 0}, {0, 0, 1, 1, 10},
            {49, 0, 12, 1, 1}, {59, 0, 2, 1, 1}, {0, 38, 1, 3, 1}, {0, 39, 1, 2, 1},
            {Integer.MAX_VALUE, 0, 12, 1, 1}, {0, 0, Integer.MAX_VALUE, 1, 1}};
        for (int[] a : wrong) {
            due.is("addTown" + java.util.Arrays.toString(a), x.addTown(a[0], a[1], a[2], a[3], a[4]), WRONG);
        }
        due.is("count(8)", x.count(8), 0);
        due.is("addTown(48, 37, 12, 3, 9)", x.addTown(48, 37, 12, 3, 9), 0);
        due.is("addTown(59, 39, 1, 1, 1)", x.addTown(59, 39, 1, 1, 1), 1);
        int[] properties = {48, 37, 12, 3, 9, 0};
        for (int what = 0; what < properties.length; what++) {
            due.is("town(0, " + what + ")", x.town(0, what), properties[what]);
        }
        due.is("count(8)", x.count(8), 2);
        for (int i = 2; i < 10; i++) {
            due.is("addTown " + i, x.addTown(i, 0, 1, 1, 1), i);
        }
        due.is("an eleventh town", x.addTown(0, 0, 1, 1, 1), FULL);
        due.is("a wrong eleventh town", x.addTown(0, 0, 1, 1, 0), WRONG);
        due.is("count(1)", x.count(1), 10);
    }

    private static void promise07Flow() {
        RiverNames x = new RiverNames();
        x.addRiver(2, 10, 10, 5, 0);
        int[] cells = {1010, 1110, 1211, 1212, 1113, 1013, 912, 911, 1010};
        for (int direction = 0; direction < 8; direction++) {
            due.is("flow(0, " + direction + ")", x.flow(0, direction), direction + 1);
            due.is("cell(0, " + (direction + 1) + ")", x.cell(0, direction + 1), cells[direction + 1]);
        }
        due.is("flow(0, 8)", x.flow(0, 8), WRONG);
        due.is("flow(0, -1)", x.flow(0, -1), WRONG);
        due.is("flow(1, 0)", x.flow(1, 0), WRONG);
        due.is("flow(-1, 0)", x.flow(-1, 0), WRONG);
        due.is("river(0, 3)", x.river(0, 3), 8);
        due.is("undo()", x.undo(), 4);
        due.is("river(0, 3)", x.river(0, 3), 7);

        RiverNames y = new RiverNames();
        y.addRiver(1, 0, 0, 1, 0);
        y.addRiver(1, 59, 39, 1, 0);
        for (int direction = 3; direction < 8; direction++) {
            due.is("flow(0, " + direction + ") in the corner", y.flow(0, direction), STATE);
        }
        for (int direction : new int[] {0, 1, 2, 3, 7}) {
            due.is("flow(1, " + direction + ") in the corner", y.flow(1, direction), STATE);
        }
        due.is("count(8)", y.count(8), 2);
        for (int i = 1; i <= 60; i++) {
            due.is("flow(0, 1 or 5)", y.flow(0, i % 2 == 1 ? 1 : 5), i);
        }
        due.is("a 61st move", y.flow(0, 1), FULL);
        due.is("a 61st move that leaves the map", y.flow(0, 5), STATE);
        due.is("a wrong 61st move", y.flow(0, 8), WRONG);
        due.is("river(0, 3)", y.river(0, 3), 60);
        due.is("cell(0, 60)", y.cell(0, 60), 0);
    }

    private static void promise08SetRank() {
        RiverNames x = new RiverNames();
        due.is("setRank(0, 1) without rivers", x.setRank(0, 1), WRONG);
        x.addRiver(1, 0, 0, 4, 0);
        due.is("setRank(0, 9)", x.setRank(0, 9), 4);
        due.is("setRank(0, 1)", x.setRank(0, 1), 9);
        due.is("setRank(0, 0)", x.setRank(0, 0), WRONG);
        due.is("setRank(0, 10)", x.setRank(0, 10), WRONG);
        due.is("setRank(1, 1)", x.setRank(1, 1), WRONG);
        due.is("setRank(-1, 1)", x.setRank(-1, 1), WRONG);
        due.is("setRank(0, 1) again", x.setRank(0, 1), 1);
        due.is("count(8)", x.count(8), 4);
        x.undo();
        x.undo();
        due.is("river(0, 0)", x.river(0, 0), 9);
    }

    private static void promise09SetHalo() {
        RiverNames x = new RiverNames();
        due.is("setHalo(0, 1) without rivers", x.setHalo(0, 1), WRONG);
        x.addRiver(1, 0, 0, 4, 1);
        due.is("setHalo(0, 0)", x.setHalo(0, 0), 1);
        due.is("setHalo(0, 2)", x.setHalo(0, 2), 0);
        due.is("setHalo(0, -1)", x.setHalo(0, -1), WRONG);
        due.is("setHalo(0, 3)", x.setHalo(0, 3), WRONG);
        due.is("setHalo(1, 1)", x.setHalo(1, 1), WRONG);
        due.is("river(0, 1)", x.river(0, 1), 2);
        due.is("count(8)", x.count(8), 3);
        x.undo();
        due.is("river(0, 1)", x.river(0, 1), 0);
    }

    private static void promise10SetTownRank() {
        RiverNames x = new RiverNames();
        due.is("setTownRank(0, 1) without towns", x.setTownRank(0, 1), WRONG);
        x.addTown(0, 0, 1, 1, 6);
        due.is("setTownRank(0, 9)", x.setTownRank(0, 9), 6);
        due.is("setTownRank(0, 1)", x.setTownRank(0, 1), 9);
        due.is("setTownRank(0, 0)", x.setTownRank(0, 0), WRONG);
        due.is("setTownRank(0, 10)", x.setTownRank(0, 10), WRONG);
        due.is("setTownRank(1, 1)", x.setTownRank(1, 1), WRONG);
        due.is("town(0, 4)", x.town(0, 4), 1);
        due.is("count(8)", x.count(8), 3);
        x.undo();
        due.is("town(0, 4)", x.town(0, 4), 9);
    }

    private static void promise11SetGap() {
        RiverNames x = new RiverNames();
        due.is("setGap(0)", x.setGap(0), 10);
        due.is("setGap(60)", x.setGap(60), 0);
        due.is("setGap(-1)", x.setGap(-1), WRONG);
        due.is("setGap(61)", x.setGap(61), WRONG);
        due.is("count(3)", x.count(3), 60);
        due.is("count(8)", x.count(8), 2);
        x.undo();
        due.is("count(3)", x.count(3), 0);
    }
}
