/** The bounds that the section 'Text' of the document names. */
final class BoundsOfText extends Bounds {
    private static final String TEXT = "Text";
    private static final String POSITION = "The error position is the offset (from 0) of the first character of the "
        + "first token that is not allowed where it stands:";

    BoundsOfText(Due due, Document document) {
        super(due, document);
    }

    @Override
    void tell() {
        longestText();
        emptyText();
        grammar();
        orderOfItems();
        names();
        moves();
        numbers();
        spaces();
        leftToRight();
        errorsOfGrammar();
        otherWords();
        otherCharacters();
        numbersOutOfRange();
        zerosAhead();
        tooManyLettersAndMoves();
        movesOffTheMap();
        townsOffTheMap();
        tooManyItems();
        lastTokens();
        endOfRivers();
        endOfTowns();
    }

    /** A desk with a river, a town and a label, to see that an error changes nothing. */
    private Story desk(String words) {
        return story(TEXT, words).call("addRiver 2 5 5 5 0", 0).flow(0, "00").call("addTown 1 1 2 1 3", 0)
            .call("set 0 0", 0);
    }

    private void longestText() {
        Story text = story(TEXT, "Rivers and towns can be read from a text of at most 150 characters,");
        String town = "town 0 0 1 1 1;";
        text.branch().write(town.repeat(10)).refuses("append 32", FULL).call("load", 10).looks("count 1", 10)
            .looks("count 9", 0);
        text.branch().write(town.repeat(9) + "town 0 0 1 1 1").call("append 59", 150).call("load", 10);
        text.rejects(town.repeat(9) + "town 0 0 1 1 1 ", 150);
        text.rejects(town.repeat(9) + "town 0 0 1 1 1x", 149);
        text.rejects(town.repeat(9) + "town 0 0 1 1 1", 149);
        text.wouldLoad(" ".repeat(150), 0).rejects(" ".repeat(149) + "x", 149).rejects(" ".repeat(149) + "r", 149);
        text.wouldLoad("river abcdefghijkl 10 10 1 0 " + SIXTY + ";river abcdefghijkl 0 0 1 0 02020202020202020202;"
            + "      ", 2);
    }

    private void emptyText() {
        Story text = desk("a sequence of items (possibly none), each of which ends with \";\":");
        text.wouldLoad("", 0).wouldLoad(" ", 0).wouldLoad("town 0 0 1 1 1;", 1);
        text.wouldLoad("town 0 0 1 1 1;town 0 0 1 1 1;", 2);
        text.rejects(";", 0).rejects(" ;", 1).rejects("town 0 0 1 1 1;;", 15).rejects("town 0 0 1 1 1", 14);
        text.rejects("town 0 0 1 1 1 town 0 0 1 1 1;", 15).rejects("town 0 0 1 1 1,", 14)
            .rejects("town 0 0 1 1 1:", 14);
        text.branch().call("load", 0).looks("count 0", 1).looks("count 1", 1).looks("count 2", 1);
    }

    private void grammar() {
        Story river = desk("\"river\" NAME X Y RANK HALO MOVES").loads("river qz 59 38 9 2 2;", 1);
        river.looks("letter 1 0", 'q').looks("letter 1 1", 'z').looks("letter 1 2", NONE).looks("cell 1 0", 5938);
        river.looks("river 1 0", 9).looks("river 1 1", 2).looks("cell 1 1", 5939).looks("river 1 3", 1);
        Story least = desk("\"river\" NAME X Y RANK HALO MOVES").loads("river a 0 0 1 0 0;", 1);
        least.looks("river 1 2", 1).looks("cell 1 0", 0).looks("river 1 0", 1).looks("river 1 1", 0);
        Story town = desk("\"town\" X Y WIDTH HEIGHT RANK").loads("town 48 37 12 3 9;town 59 39 1 1 1;", 2);
        int[][] due = {{48, 37, 12, 3, 9}, {59, 39, 1, 1, 1}};
        for (int i = 0; i < 2; i++) {
            for (int what = 0; what < 5; what++) {
                town.looks("town " + (i + 1) + " " + what, due[i][what]);
            }
        }
        desk("\"town\" X Y WIDTH HEIGHT RANK").loads("town 0 0 1 1 1;", 1).looks("town 1 0", 0).looks("town 1 1", 0);
    }

    private void orderOfItems() {
        Story text = desk("They are added to what there is, in their order.");
        text.loads("river b 6 0 1 0 0;town 7 0 1 1 7;river c 8 0 1 0 0;town 9 0 1 1 9;", 4);
        text.looks("count 0", 3).looks("cell 0 0", 505).looks("cell 1 0", 600).looks("cell 2 0", 800);
        text.looks("count 1", 3).looks("town 0 0", 1).looks("town 1 0", 7).looks("town 2 0", 9);
        text.looks("count 2", 1).call("load", 0).looks("count 0", 3);
    }

    private void names() {
        Story text = desk("NAME is a maximal run of letters a to z,");
        text.wouldLoad("river a 0 0 1 0 0;", 1).wouldLoad("river z 0 0 1 0 0;", 1).wouldLoad("river az0 0 1 0 0;", 1);
        text.branch().loads("river river 0 0 1 0 0;", 1).looks("river 1 2", 5);
        text.branch().loads("river town 0 0 1 0 0;", 1).looks("river 1 2", 4);
        text.rejects("river ` 0 0 1 0 0;", 6).rejects("river { 0 0 1 0 0;", 6).rejects("river A 0 0 1 0 0;", 6);
        text.rejects("river Z 0 0 1 0 0;", 6).rejects("river a`b 0 0 1 0 0;", 7).rejects("river z{ 0 0 1 0 0;", 7);
        text.rejects("river aB 0 0 1 0 0;", 7).rejects("river a b 0 0 1 0 0;", 8).rejects("rivera 0 0 1 0 0;", 0);
        text.rejects("river \u00e9 0 0 1 0 0;", 6).rejects("river ;", 6).rejects("river 1 0 0 1 0 0;", 6);
    }

    private void moves() {
        Story text = desk("MOVES a maximal run of digits, each of which is a direction (so a river of a text has a move "
            + "at least).");
        text.branch().loads("river a 9 9 1 0 01234567;", 1).looks("river 1 3", 8).looks("cell 1 8", 909);
        text.branch().loads("river a 9 9 1 0 0;", 1).looks("river 1 3", 1);
        text.branch().loads("river a 9 9 1 0 000;", 1).looks("river 1 3", 3);
        text.rejects("river a 9 9 1 0;", 15).rejects("river a 9 9 1 0 ;", 16);
        text.rejects("river a 9 9 1 0 8;", 16).rejects("river a 9 9 1 0 9;", 16).rejects("river a 9 9 1 0 078;", 16);
        text.rejects("river a 9 9 1 0 /;", 16).rejects("river a 9 9 1 0 :;", 16).rejects("river a 9 9 1 0 0/;", 17);
        text.rejects("river a 9 9 1 0 0:;", 17).rejects("river a 9 9 1 0 0 0;", 18)
            .rejects("river a 9 9 1 0 0a;", 17);
    }

    private void numbers() {
        Story text = desk("The others are numbers: maximal runs of digits, which must not begin with 0 unless they are "
            + "the single digit 0.");
        text.wouldLoad("river a 0 0 1 0 0;", 1).wouldLoad("river a 10 20 1 0 0;", 1).wouldLoad("town 0 0 1 1 1;", 1);
        text.rejects("river a 00 0 1 0 0;", 8).rejects("river a 01 0 1 0 0;", 8).rejects("river a 0 00 1 0 0;", 10);
        text.rejects("river a 000 0 1 0 0;", 8).rejects("river a 0 0 1 00 0;", 14).rejects("town 00 0 1 1 1;", 5);
        text.rejects("river a 1 0 0 1 0 0;", 12).rejects("river a 5a 0 1 0 0;", 9).rejects("river a +5 0 1 0 0;", 8);
        text.rejects("river a -1 0 1 0 0;", 8).rejects("river a 1.0 0 1 0 0;", 9);
    }

    private void spaces() {
        String words = "Spaces (code 32) may stand before, between and after tokens; they are needed only between two "
            + "runs of letters or two runs of digits.";
        Story text = desk(words);
        text.wouldLoad("   river   a   0   0   1   0   0   ;   ", 1).wouldLoad("river a0 0 1 0 0;", 1);
        text.wouldLoad("town0 0 1 1 1;town0 0 1 1 1;", 2).wouldLoad("town 0 0 1 1 1 ;", 1);
        text.wouldLoad(" town 0 0 1 1 1; river a 0 0 1 0 0; ", 2);
        text.rejects("rivera0 0 1 0 0;", 0).rejects("rivera 0 0 1 0 0;", 0);
        text.rejects("river a 00 1 0 0;", 8).rejects("river a 0 01 0 0;", 10).rejects("river a 0 0 10 0;", 12);
        text.rejects("river a 0 0 1 00;", 14).rejects("town 0 0 11 1;", 13).rejects("riv er a 0 0 1 0 0;", 0);
        for (int code : new int[] {1, 9, 10, 13, 31, 33, 95, 127, 128, 160, 255}) {
            text.rejects("town" + (char) code + "0 0 1 1 1;", 4).rejects((char) code + "town 0 0 1 1 1;", 0);
        }
    }

    private void leftToRight() {
        Story text = desk("The text is read from left to right.");
        text.rejects("town 60 40 0 0 0;", 5).rejects("town 0 40 13 4 10;", 7).rejects("town 0 0 1 1 0;x", 13);
        text.rejects("town 0 0 1 1 1;x town 60", 15).rejects("river a 60 40 0 3 8", 8).rejects("x;y;", 0);
        text.rejects("town 0 0 1 1 1;town 0 0 1 1 0;town 0 0 1 1 x;", 28);
    }

    private void errorsOfGrammar() {
        Story text = desk(POSITION + " by the grammar;");
        text.rejects("5", 0).rejects(";", 0).rejects("river river", 11).rejects("town town 0 0 1 1 1;", 5);
        text.rejects("river;", 5).rejects("river 5;", 6).rejects("river a;", 7).rejects("river a b;", 8);
        text.rejects("river a 0;", 9).rejects("river a 0 b;", 10).rejects("river a 0 0;", 11);
        text.rejects("river a 0 0 b;", 12).rejects("river a 0 0 1;", 13).rejects("river a 0 0 1 b;", 14);
        text.rejects("river a 0 0 1 0;", 15).rejects("river a 0 0 1 0 b;", 16).rejects("river a 0 0 1 0 0 b;", 18);
        text.rejects("river a 0 0 1 0 0 0;", 18).rejects("town;", 4).rejects("town 0;", 6).rejects("town 0 a;", 7);
        text.rejects("town 0 0;", 8).rejects("town 0 0 1;", 10).rejects("town 0 0 1 1;", 12);
        text.rejects("town 0 0 1 1 a;", 13).rejects("town 0 0 1 1 1 1;", 15).rejects("town 0 0 1 1 1 a;", 15);
    }

    private void otherWords() {
        Story text = desk("because it is another word,");
        String[] words = {"r", "rive", "rivers", "riverriver", "sriver", "liver", "raver", "rider", "rivar", "riven", "rivre",
            "t", "tow", "towns", "townriver", "stown", "down", "tawn", "toan", "towm", "twon", "city", "zzzzzzzzzzzzz"};
        for (String word : words) {
            text.rejects(word + " a 0 0 1 0 0;", 0).rejects(" " + word + ";", 1)
                .rejects("town 0 0 1 1 1;" + word, 15);
        }
    }

    private void otherCharacters() {
        Story text = desk("any other character,");
        for (char sign : new char[] {1, '!', '"', ',', '-', '.', '/', ':', '?', '@', 'A', 'Z', '[', '`', '{', 127, 128, 255}) {
            text.rejects(sign + "", 0).rejects(sign + "river a 0 0 1 0 0;", 0)
                .rejects("river" + sign + "a 0 0 1 0 0;", 5);
            text.rejects("river a" + sign + "0 0 1 0 0;", 7).rejects("river a 0 0 1 0" + sign + "0;", 15);
            text.rejects("river a 0 0 1 0 0" + sign + ";", 17).rejects("river a 0 0 1 0 0;" + sign, 18);
        }
        text.rejects("River a 0 0 1 0 0;", 0).rejects("rIver a 0 0 1 0 0;", 0).rejects("riveR a 0 0 1 0 0;", 0);
    }

    /** For each number its text as X, the position, and the least and the most that is allowed. */
    private void numbersOutOfRange() {
        Story text = desk("a number that is out of its range");
        number(text, "river a X 0 1 0 2;", 0, 59);
        number(text, "river a 0 X 1 0 0;", 0, 39);
        number(text, "river a 0 0 X 0 0;", 1, 9);
        number(text, "river a 0 0 1 X 0;", 0, 2);
        number(text, "town X 0 1 1 1;", 0, 59);
        number(text, "town 0 X 1 1 1;", 0, 39);
        number(text, "town 0 0 X 1 1;", 1, 12);
        number(text, "town 0 0 1 X 1;", 1, 3);
        number(text, "town 0 0 1 1 X;", 1, 9);
    }

    private void number(Story text, String item, int least, int most) {
        int position = item.indexOf('X');
        text.wouldLoad(item.replace("X", "" + least), 1).wouldLoad(item.replace("X", "" + most), 1);
        String[] beyond = {"" + (most + 1), "99", "100", "256", "65536", "2147483648", "4294967296", "4294967297",
            "18446744073709551616", "1" + "0".repeat(99)};
        for (String digits : beyond) {
            text.rejects(item.replace("X", digits), position);
        }
        if (least > 0) {
            text.rejects(item.replace("X", "" + (least - 1)), position);
        }
    }

    private void zerosAhead() {
        Story text = desk("or with a 0 ahead,");
        for (String digits : new String[] {"00", "01", "09", "001", "0".repeat(100)}) {
            text.rejects("river a " + digits + " 0 1 0 0;", 8).rejects("river a 0 " + digits + " 1 0 0;", 10);
            text.rejects("river a 0 0 " + digits + " 0 0;", 12).rejects("river a 0 0 1 " + digits + " 0;", 14);
            text.rejects("town " + digits + " 0 1 1 1;", 5).rejects("town 0 " + digits + " 1 1 1;", 7);
            text.rejects("town 0 0 " + digits + " 1 1;", 9).rejects("town 0 0 1 " + digits + " 1;", 11);
            text.rejects("town 0 0 1 1 " + digits + ";", 13);
        }
        text.wouldLoad("river a 9 9 1 0 00;", 1).wouldLoad("river a 9 9 1 0 01;", 1);
    }

    private void tooManyLettersAndMoves() {
        Story names = desk("a NAME with more than 12 letters,");
        names.branch().loads("river abcdefghijkl 0 0 1 0 0;", 1).looks("river 1 2", 12);
        names.rejects("river abcdefghijklm 0 0 1 0 0;", 6).rejects("river " + "a".repeat(144), 6);
        names.rejects("town 0 0 1 1 1;river abcdefghijklm", 21);
        Story moves = desk("MOVES with more than 60 digits,");
        moves.branch().loads("river a 0 0 1 0 " + SIXTY + ";", 1).looks("river 1 3", 60);
        moves.branch().loads("river a 0 0 1 0 " + SIXTY.substring(1).replace('4', '2').replace('0', '6') + ";", 1);
        moves.rejects("river a 0 0 1 0 " + SIXTY + "0;", 16).rejects("river a 0 0 1 0 " + SIXTY + "4;", 16);
        moves.rejects("river a 0 0 1 0 " + SIXTY + SIXTY + ";", 16).rejects("river a 0 0 1 0 " + SIXTY + " 0;", 77);
    }

    private void movesOffTheMap() {
        Story digits = desk("with a digit above 7,");
        digits.wouldLoad("river a 9 9 1 0 7;", 1).rejects("river a 9 9 1 0 8;", 16).rejects("river a 9 9 1 0 9;", 16);
        digits.rejects("river a 9 9 1 0 00000008;", 16).rejects("river a 9 9 1 0 80;", 16);
        digits.wouldLoad("river a 9 9 1 0 00000007;", 1);
        Story cells = desk("or with which a cell would lie outside of the map;");
        cells.wouldLoad("river a 58 9 1 0 0;", 1).rejects("river a 58 9 1 0 00;", 17)
            .rejects("river a 59 9 1 0 0;", 17);
        cells.wouldLoad("river a 1 9 1 0 4;", 1).rejects("river a 1 9 1 0 44;", 16).rejects("river a 0 9 1 0 4;", 16);
        cells.wouldLoad("river a 9 1 1 0 6;", 1).rejects("river a 9 1 1 0 66;", 16).rejects("river a 9 0 1 0 6;", 16);
        cells.wouldLoad("river a 9 38 1 0 2;", 1).rejects("river a 9 38 1 0 22;", 17)
            .rejects("river a 9 39 1 0 2;", 17);
        cells.rejects("river a 0 9 1 0 40;", 16).wouldLoad("river a 0 9 1 0 04;", 1);
        cells.rejects("river a 0 0 1 0 " + SIXTY.substring(1) + ";", 16);
    }

    private void townsOffTheMap() {
        Story text = desk("WIDTH or HEIGHT with which a cell of the town would lie outside of the map;");
        text.wouldLoad("town 48 0 12 1 1;", 1).rejects("town 49 0 12 1 1;", 10);
        text.wouldLoad("town 58 0 2 1 1;", 1).rejects("town 59 0 2 1 1;", 10).wouldLoad("town 59 0 1 1 1;", 1);
        text.wouldLoad("town 0 37 1 3 1;", 1).rejects("town 0 38 1 3 1;", 12);
        text.wouldLoad("town 0 38 1 2 1;", 1).rejects("town 0 39 1 2 1;", 12).wouldLoad("town 0 39 1 1 1;", 1);
        text.rejects("town 59 39 2 2 1;", 11).rejects("town 59 39 1 2 1;", 13).wouldLoad("town 59 39 1 1 1;", 1);
        text.rejects("town 59 0 2", 10).rejects("town 0 39 1 2", 12);
    }

    private void tooManyItems() {
        Story none = story(TEXT, "or the word \"river\" or \"town\" if there are as many as there can be");
        none.wouldLoad("river a 0 0 1 0 0;".repeat(6), 6).rejects("river a 0 0 1 0 0;".repeat(7), 108);
        none.wouldLoad("town 0 0 1 1 1;".repeat(10), 10).rejects("town0 0 1 1 1;".repeat(10) + "town", 140);
        Story some = desk("(with those of the text before it).");
        some.wouldLoad("river a 0 0 1 0 0;".repeat(5), 5).rejects("river a 0 0 1 0 0;".repeat(6), 90);
        some.wouldLoad("town 0 0 1 1 1;".repeat(9), 9).rejects("town 0 0 1 1 1;".repeat(10), 135);
        some.loads("river a 0 0 1 0 0;".repeat(5), 5).rejects("river a 0 0 1 0 0;", 0).rejects(" river 5 5 5", 1);
        some.wouldLoad("town 0 0 1 1 1;", 1).rejects("town 0 0 1 1 1;river", 15);
        some.loads("town 0 0 1 1 1;".repeat(9), 9).rejects("town 0 0 1 1 1;", 0).rejects("river", 0)
            .rejects(" town", 1);
        some.wouldLoad("", 0).rejects("x", 0);
    }

    private void lastTokens() {
        Story text = desk("(This holds for the last token of the text, too.)");
        text.rejects("rive", 0).rejects(" riverr", 1).rejects("town 0 0 1 1 1;tow", 15).rejects("river 7", 6);
        text.rejects("river abcdefghijklm", 6).rejects("river a 60", 8).rejects("river a 00", 8);
        text.rejects("river a 0 40", 10).rejects("river a 0 0 0", 12).rejects("river a 0 0 10", 12);
        text.rejects("river a 0 0 1 3", 14).rejects("river a 0 0 1 0 8", 16).rejects("river a 0 0 1 0 4", 16);
        text.rejects("river a 0 0 1 0 " + SIXTY + "0", 16).rejects("river a 0 0 1 0 0 0", 18);
        text.rejects("river a 0 0 1 0 0 x", 18).rejects("town 60", 5).rejects("town 0 40", 7)
            .rejects("town 0 0 13", 9);
        text.rejects("town 49 0 12", 10).rejects("town 0 0 1 4", 11).rejects("town 0 39 1 2", 12);
        text.rejects("town 0 0 1 1 0", 13).rejects("town 0 0 1 1 10", 13).rejects("town 0 0 1 1 1 1", 15);
        text.rejects("town 0 0 1 1 1;;", 15);
    }

    /** A text that is cut off at each place. */
    private void endOfRivers() {
        Story text = desk("If the text ends where another token must come, the error position is the length of the text.");
        String item = "river a 1 2 3 1 0;";
        for (int length = 1; length < item.length(); length++) {
            text.rejects(item.substring(0, length), length < 5 ? 0 : length);
            text.rejects("town 0 0 1 1 1;" + item.substring(0, length), 15 + (length < 5 ? 0 : length));
        }
        text.wouldLoad(item, 1).rejects("river a 0 0 1 0 0   ", 20).rejects("river   ", 8);
    }

    private void endOfTowns() {
        Story text = desk("If the text ends where another token must come, the error position is the length of the text.");
        String item = "town 1 2 3 1 5;";
        for (int length = 1; length < item.length(); length++) {
            text.rejects(item.substring(0, length), length < 4 ? 0 : length);
            text.rejects(item + item.substring(0, length) + "  ", 15 + (length < 4 ? 0 : length + 2));
        }
        text.wouldLoad(item, 1).rejects("town" + " ".repeat(146), 150);
    }
}
