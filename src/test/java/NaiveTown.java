import java.util.ArrayList;
import java.util.HashMap;
import java.util.List;
import java.util.Map;

/** A TOWN read by cutting the text into signs first. */
final class NaiveTown {
    final List<Map<Character, Integer>> players = new ArrayList<>();
    int metronome = 60;
    private final String text;
    private final List<Integer> starts = new ArrayList<>();
    private int fault = -1;

    NaiveTown(String text) {
        this.text = text;
        for (int i = 0; i < text.length(); i++) {
            boolean goesOn = i > 0 && isDigit(text.charAt(i)) && isDigit(text.charAt(i - 1));
            if (text.charAt(i) != ' ' && !goesOn) {
                starts.add(i);
            }
        }
        read();
    }

    int fault() {
        return fault;
    }

    private static boolean isDigit(char sign) {
        return sign >= '0' && sign <= '9';
    }

    private void read() {
        String expects = "clause";
        Map<Character, Integer> items = null;
        boolean ofPlayer = false;
        char letter = 0;
        int metronomes = 0;
        for (int start : starts) {
            char sign = text.charAt(start);
            switch (expects) {
                case "clause":
                    ofPlayer = sign == 'p';
                    items = new HashMap<>();
                    if (ofPlayer) {
                        players.add(items);
                    } else {
                        metronomes++;
                    }
                    if (sign != 'p' && sign != 'm' || players.size() > 6 || metronomes > 1) {
                        fault = start;
                        return;
                    }
                    expects = "item";
                    break;
                case "item":
                    if (sign == ';') {
                        expects = "clause";
                        break;
                    }
                    letter = sign;
                    if ((ofPlayer ? "bdkfh" : "b").indexOf(sign) < 0 || items.containsKey(sign)) {
                        fault = start;
                        return;
                    }
                    expects = "number";
                    break;
                default:
                    int end = start;
                    while (end < text.length() && isDigit(text.charAt(end))) {
                        end++;
                    }
                    if (end == start || end - start > 2) {
                        fault = end == start ? start : start + 2;
                        return;
                    }
                    int value = Integer.parseInt(text.substring(start, end));
                    if (value < (letter == 'b' ? 1 : 0) || value > most(letter)) {
                        fault = end - 1;
                        return;
                    }
                    items.put(letter, value);
                    if (!ofPlayer) {
                        metronome = value;
                    }
                    expects = "item";
            }
        }
        if (!expects.equals("item") || players.isEmpty() || followsWrong()) {
            fault = text.length();
        }
    }

    private static int most(char letter) {
        return Map.of('b', 99, 'd', 9, 'k', 3, 'f', 5, 'h', 10).get(letter);
    }

    private boolean followsWrong() {
        for (int p = 0; p < players.size(); p++) {
            int whom = players.get(p).getOrDefault('f', -1);
            if (whom == p || whom >= players.size()) {
                return true;
            }
        }
        return false;
    }
}
