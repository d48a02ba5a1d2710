import java.util.List;

/** A call, written as the name of its method and its arguments: "addRiver 3 5 5 5 0". */
record Step(int method, int... args) {
    static Step of(String call) {
        String[] words = call.split(" ");
        int method = List.of(Calls.NAMES).indexOf(words[0]);
        if (method < 0 || words.length - 1 != Calls.PARAMETERS[method]) {
            throw new IllegalArgumentException("no such call: " + call);
        }
        int[] args = new int[words.length - 1];
        for (int i = 0; i < args.length; i++) {
            args[i] = Integer.parseInt(words[i + 1]);
        }
        return new Step(method, args);
    }

    int on(RiverNames desk) {
        return Calls.onDesk(desk, method, args);
    }
}
