import java.util.Random;

/** Makes TEXTS, good ones and broken ones. */
final class RandomTexts {
    private final Random random;

    RandomTexts(Random random) {
        this.random = random;
    }

    private String oneOf(String... choices) {
        return choices[random.nextInt(choices.length)];
    }

    String town() {
        int players = 1 + random.nextInt(6);
        int metronomeAt = random.nextInt(2 * players + 2);
        StringBuilder s = new StringBuilder();
        for (int p = 0; p <= players; p++) {
            if (p == metronomeAt) {
                s.append(s.length() > 0 ? ";" : "").append("m");
                if (random.nextBoolean()) {
                    s.append("b").append(1 + random.nextInt(99));
                }
            }
            if (p < players) {
                s.append(s.length() > 0 ? ";" : "").append("p").append(items(p, players));
            }
        }
        return s.toString();
    }

    private String items(int p, int players) {
        String letters = oneOf("bdkfh", "hfkdb", "kbfhd", "fbdkh");
        StringBuilder s = new StringBuilder();
        for (int i = 0; i < letters.length(); i++) {
            char letter = letters.charAt(i);
            if (random.nextInt(4) == 0) {
                continue;
            }
            int value = number(letter);
            if (letter == 'f') {
                value = random.nextInt(players);
                if (value == p) {
                    continue;
                }
            }
            s.append(letter).append(value < 10 && random.nextInt(6) == 0 ? "0" : "").append(value);
        }
        return s.toString();
    }

    private int number(char letter) {
        switch (letter) {
            case 'b':
                return random.nextInt(3) == 0 ? 1 + random.nextInt(99) : 50 + random.nextInt(20);
            case 'd':
                return random.nextInt(10);
            case 'k':
                return random.nextInt(4);
            default:
                return random.nextInt(11);
        }
    }

    String law() {
        StringBuilder s = new StringBuilder();
        int clauses = 1 + random.nextInt(3);
        for (int i = 0; i < clauses; i++) {
            s.append(i > 0 ? ";" : "").append("y:");
            if (random.nextInt(3) > 0) {
                s.append(condition(0)).append("?");
            }
            s.append(sum(0));
        }
        return s.toString();
    }

    private String condition(int depth) {
        StringBuilder s = new StringBuilder(unit(depth));
        for (int i = 0; i < 3 && random.nextInt(3) == 0; i++) {
            s.append(oneOf("|", "&")).append(unit(depth));
        }
        return s.toString();
    }

    private String unit(int depth) {
        if (depth < 7 && random.nextInt(3) == 0) {
            return random.nextBoolean() ? "!" + unit(depth + 1) : "(" + condition(depth + 1) + ")";
        }
        return sum(depth) + oneOf("=", "<", ">") + sum(depth);
    }

    private String sum(int depth) {
        StringBuilder s = new StringBuilder(atom(depth));
        for (int i = 0; i < 4 && random.nextInt(5) < 2; i++) {
            s.append(oneOf("+", "-", "*", "/", "*", "-")).append(atom(depth));
        }
        return s.toString();
    }

    private String atom(int depth) {
        if (depth < 7 && random.nextInt(5) == 0) {
            return "[" + sum(depth + 1) + "]";
        }
        if (random.nextInt(3) > 0) {
            return oneOf("d", "w", "m", "n", "o", "d", "o");
        }
        return oneOf("0", "1", "2", "3", "7", "10", "55", "100", "999", "9999", "0003");
    }

    String blanked(String text) {
        StringBuilder s = new StringBuilder();
        for (int i = 0; i < text.length(); i++) {
            boolean within = i > 0 && isDigit(text.charAt(i)) && isDigit(text.charAt(i - 1));
            for (int k = 0; !within && k < 2 && random.nextInt(8) == 0; k++) {
                s.append(' ');
            }
            s.append(text.charAt(i));
        }
        return random.nextInt(4) == 0 ? s + " " : s.toString();
    }

    String broken(String text, String signs) {
        StringBuilder s = new StringBuilder(text);
        for (int i = random.nextInt(3); i >= 0; i--) {
            int at = random.nextInt(s.length() + 1);
            char sign = signs.charAt(random.nextInt(signs.length()));
            int how = random.nextInt(4);
            if (how == 0 || at == s.length()) {
                s.insert(at, sign);
            } else if (how == 1) {
                s.deleteCharAt(at);
            } else if (how == 2) {
                s.setCharAt(at, sign);
            } else {
                s.setLength(at);
            }
        }
        return s.toString();
    }

    private static boolean isDigit(char sign) {
        return sign >= '0' && sign <= '9';
    }
}
