import java.util.ArrayList;
import java.util.List;
import java.util.regex.Matcher;
import java.util.regex.Pattern;

/** Reads a text for the model: first all tokens, then item after item. */
final class ModelReader {
    interface RiverTaker {
        boolean take(String name, int[] numbers, String moves);
    }

    interface TownTaker {
        boolean take(int[] numbers);
    }

    private static final Pattern TOKEN = Pattern.compile("[a-z]+|[0-9]+|[^ ]", Pattern.DOTALL);
    private final List<String> tokens = new ArrayList<>();
    private final List<Integer> offsets = new ArrayList<>();

    ModelReader(String text) {
        Matcher matcher = TOKEN.matcher(text);
        while (matcher.find()) {
            tokens.add(matcher.group());
            offsets.add(matcher.start());
        }
        tokens.add("");
        offsets.add(text.length());
    }

    int read(RiverTaker rivers, TownTaker towns, int riverRoom, int townRoom) {
        int items = 0;
        int at = 0;
        int readRivers = 0;
        while (!tokens.get(at).isEmpty()) {
            String word = tokens.get(at);
            boolean isRiver = word.equals("river") && readRivers < riverRoom;
            boolean isTown = word.equals("town") && items - readRivers < townRoom;
            if (!isRiver && !isTown) {
                return -1000 - offsets.get(at);
            }
            int size = isRiver ? 8 : 7;
            for (int i = 1; i < size; i++) {
                String before = String.join(" ", tokens.subList(at, at + i));
                if (!allowed(isRiver, i, tokens.get(at + i), before.split(" "), rivers)) {
                    return -1000 - offsets.get(at + i);
                }
            }
            if (isRiver) {
                readRivers++;
            } else {
                towns.take(numbers(tokens.subList(at + 1, at + 6)));
            }
            items++;
            at += size;
        }
        return items;
    }

    private static int[] numbers(List<String> list) {
        return list.stream().mapToInt(Integer::parseInt).toArray();
    }

    private static boolean number(String token, int least, int most) {
        for (int value = least; value <= most; value++) {
            if (token.equals(Integer.toString(value))) {
                return true;
            }
        }
        return false;
    }

    private static boolean allowed(boolean isRiver, int i, String token, String[] before, RiverTaker rivers) {
        if (isRiver) {
            switch (i) {
                case 1: return token.matches("[a-z]{1,12}");
                case 2: return number(token, 0, 59);
                case 3: return number(token, 0, 39);
                case 4: return number(token, 1, 9);
                case 5: return number(token, 0, 2);
                case 6: return token.matches("[0-9]+")
                    && rivers.take(before[1], numbers(List.of(before).subList(2, 6)), token);
                default: return token.equals(";");
            }
        }
        switch (i) {
            case 1: return number(token, 0, 59);
            case 2: return number(token, 0, 39);
            case 3: return number(token, 1, 12) && Integer.parseInt(before[1]) + Integer.parseInt(token) <= 60;
            case 4: return number(token, 1, 3) && Integer.parseInt(before[2]) + Integer.parseInt(token) <= 40;
            case 5: return number(token, 1, 9);
            default: return token.equals(";");
        }
    }
}
