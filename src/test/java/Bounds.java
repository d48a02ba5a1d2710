/** A group of stories about the bounds that sentences of the document name. */
abstract class Bounds {
    static final int WRONG = RiverNames.INVALID_ARGUMENT;
    static final int STATE = RiverNames.ILLEGAL_STATE;
    static final int FULL = RiverNames.CAPACITY_EXCEEDED;
    static final int NONE = RiverNames.NONE;
    static final int LEAST = Integer.MIN_VALUE;
    static final int MOST = Integer.MAX_VALUE;
    /** Sixty moves to and fro, the first one to the right. */
    static final String SIXTY = "04".repeat(30);
    private final Due due;
    private final Document document;

    Bounds(Due due, Document document) {
        this.due = due;
        this.document = document;
    }

    abstract void tell();

    /** A story on a new desk. */
    Story story(String section, String words) {
        document.quote(due, section, words);
        return new Story(due, section + ": " + words);
    }

    /**
     * A story on a desk with two rivers (0: "abc", 12 moves to the right, rank 5, halo 1; 1: "a", 8 moves
     * downward, rank 7), two towns (ranks 4 and 9), the gap 2, labels at the starts 0 and 10 of river 0 and
     * (number 1) at the start 2 of river 1, a full history and a text of 15 characters.
     */
    Story scene(String section, String words) {
        Story scene = story(section, words);
        scene.call("addRiver 3 10 10 5 1", 0).flow(0, "0".repeat(12));
        scene.call("addRiver 1 40 20 7 0", 1).flow(1, "2".repeat(8));
        scene.call("addTown 20 20 3 2 4", 0).call("addTown 0 0 12 3 9", 1).call("setGap 2", 10);
        scene.call("set 0 0", 0).call("set 1 2", 1).call("set 0 10", 2);
        return scene.write("town 7 7 1 1 3;");
    }

    /** A story on a desk with one river (a name of so many letters, 60 moves to and fro from 0/0, rank 5, halo 0). */
    Story sixty(String section, String words, int letters) {
        String name = "abcdefghijkl".substring(0, letters);
        return story(section, words).loads("river " + name + " 0 0 5 0 " + SIXTY + ";", 1);
    }
}
