import java.io.IOException;
import java.nio.file.Files;
import java.nio.file.Path;

/** Counts the answers that are not the ones due, and helps to feed texts. */
final class Check {
    private static final Path DOCUMENT = Path.of("../shared/DOC.md");

    private int wrong;
    private int asked;
    private int sentences;
    private String words = "";
    private String document;

    /** The document's words that the next answers are about; told, but not wrong, if they stand there no more. */
    void says(String quoted) {
        sentences++;
        words = "'" + quoted + "': ";
        if (!document().isEmpty() && !document().contains(quoted)) {
            System.out.println("the document does not say '" + quoted + "'");
        }
    }

    private String document() {
        if (document == null) {
            try {
                document = Files.exists(DOCUMENT) ? Files.readString(DOCUMENT).replaceAll("\\s+", " ") : "";
            } catch (IOException e) {
                document = "";
            }
        }
        return document;
    }

    void due(String call, long got, long want) {
        asked++;
        if (got != want) {
            wrong++;
            if (wrong <= 50) {
                System.out.println(words + call + " answered " + got + ", due is " + want);
            }
        }
    }

    void due(String call, boolean got, boolean want) {
        due(call, got ? 1 : 0, want ? 1 : 0);
    }

    boolean isRight() {
        return wrong == 0;
    }

    void close(String name) {
        String of = sentences > 0 ? " of " + sentences + " sentences" : "";
        System.out.println(name + ": " + asked + " answers" + of + ", " + wrong + " wrong");
        if (wrong != 0 || asked == 0) {
            System.exit(1);
        }
    }

    /** The five numbers of the next twenty signs of a text. */
    static int[] words(String text, int from) {
        int[] words = new int[5];
        for (int i = 0; i < 20; i++) {
            int at = from + i;
            int sign = at < text.length() ? text.charAt(at) : 0;
            words[i / 4] |= sign << (24 - 8 * (i % 4));
        }
        return words;
    }

    static void feed(BorrowedBeat x, String text) {
        for (int from = 0; from < text.length(); from += 20) {
            int[] w = words(text, from);
            x.feed(w[0], w[1], w[2], w[3], w[4]);
        }
    }

    static int fault(int sort, String text) {
        BorrowedBeat x = new BorrowedBeat();
        feed(x, text);
        return x.fault(sort);
    }

    static int give(BorrowedBeat x, int sort, String text) {
        x.end(0);
        feed(x, text);
        return x.text(sort);
    }

    static BorrowedBeat town(String text) {
        BorrowedBeat x = new BorrowedBeat();
        give(x, 0, text);
        return x;
    }
}
