/** Counts the answers of one test that are not as due, and prints them. */
final class Due {
    private final String test;
    private int answers;
    private int wrong;

    Due(String test) {
        this.test = test;
    }

    void is(String call, long got, long want) {
        answers++;
        if (got != want) {
            wrong++;
            System.out.println(test + ": " + call + " answered " + got + ", due is " + want);
        }
    }

    boolean allRight() {
        return wrong == 0;
    }

    /** Appends all characters of a text. */
    static void write(RiverNames desk, String text) {
        for (int i = 0; i < text.length(); i++) {
            desk.append(text.charAt(i));
        }
    }

    /** A desk with one river, read from a text. */
    RiverNames named(String name, int x, int y, int rank, int halo, String moves) {
        RiverNames desk = new RiverNames();
        write(desk, "river " + name + " " + x + " " + y + " " + rank + " " + halo + " " + moves + ";");
        is("load() of " + name, desk.load(), 1);
        return desk;
    }

    /** Lengthens a river by a move for each digit. */
    static void flow(RiverNames desk, int river, String moves) {
        for (int i = 0; i < moves.length(); i++) {
            desk.flow(river, moves.charAt(i) - '0');
        }
    }

    void end() {
        System.out.println(test + ": " + answers + " answers, " + wrong + " wrong");
        if (wrong != 0) {
            System.exit(1);
        }
    }
}
