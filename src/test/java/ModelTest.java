import java.util.NoSuchElementException;
import java.util.Random;

/** Random runs, each call compared with the plain second telling of the document. */
public final class ModelTest {
    private static final int KINDS = 39;
    private final Check check = new Check();
    private final Random random;
    private final RandomTexts texts;
    private BorrowedBeat x;
    private NaiveBeat y;
    private String run = "";

    private ModelTest(long seed) {
        random = new Random(seed);
        texts = new RandomTexts(random);
    }

    public static void main(String[] args) {
        int runs = args.length > 0 ? Integer.parseInt(args[0]) : 400;
        long seed = args.length > 1 ? Long.parseLong(args[1]) : 20261118L;
        ModelTest test = new ModelTest(seed);
        test.compareFaults(runs * 5);
        for (int i = 0; i < runs && test.check.isRight(); i++) {
            test.compareRun();
        }
        test.check.close("ModelTest");
    }

    private void compareFaults(int count) {
        for (int i = 0; i < count; i++) {
            String town = texts.blanked(texts.town());
            String law = texts.blanked(texts.law());
            String brokenTown = texts.broken(town, "pmbdkfh;0123456789 x");
            String brokenLaw = texts.broken(law, "y:?|&!()[]=<>+-*/dwmno0123456789; x");
            for (String text : new String[] {town, law, brokenTown, brokenLaw}) {
                String tape = text.length() > 160 ? text.substring(0, 160) : text;
                check.due("fault(0) of '" + tape + "'", Check.fault(0, tape), new NaiveTown(tape).fault());
                check.due("fault(1) of '" + tape + "'", Check.fault(1, tape), NaiveLaw.fault(tape));
            }
        }
    }

    private void compareRun() {
        x = new BorrowedBeat();
        y = new NaiveBeat();
        run = "";
        boolean townless = random.nextInt(12) == 0;
        for (int i = random.nextInt(4); i > 0; i--) {
            give(1, texts.blanked(texts.law()));
        }
        if (!townless) {
            give(0, texts.town());
            change(1, 1 + random.nextInt(random.nextInt(3) == 0 ? 30 : 10));
        }
        int calls = random.nextInt(5) == 0 ? 230 : 20 + random.nextInt(80);
        for (int i = 0; i < calls && check.isRight(); i++) {
            step();
        }
    }

    private void give(int sort, String text) {
        String tape = text.length() > 160 ? text.substring(0, 160) : text;
        due("end(0)", x.end(0), y.end(0));
        for (int from = 0; from < tape.length(); from += 20) {
            int[] w = Check.words(tape, from);
            due("feed '" + tape + "' from " + from, x.feed(w[0], w[1], w[2], w[3], w[4]), y.feed(w[0], w[1], w[2], w[3], w[4]));
        }
        due("text(" + sort + ") of '" + tape + "'", x.text(sort), y.text(sort));
    }

    private void due(String call, long got, long want) {
        run += "\n  " + call;
        check.due("in the run" + (got == want ? "" : run) + "\n  " + call, got, want);
    }

    private void due(String call, boolean got, boolean want) {
        due(call, got ? 1 : 0, want ? 1 : 0);
    }

    /** Mostly a PLAYER or near one, seldom far off. */
    private int small(int most) {
        return random.nextInt(25) == 0 ? random.nextInt() : random.nextInt(most + 3) - 1;
    }

    private void step() {
        int kind = random.nextInt(KINDS + 14);
        if (kind >= KINDS) {
            kind = 5 + random.nextInt(7);
        }
        int a = small(6);
        int b = small(6);
        if (kind < 5) {
            give(kind == 0 ? 0 : 1, kind == 0 ? texts.town() : texts.blanked(texts.law()));
        } else if (kind < 13) {
            changeBy(kind, a, b);
        } else {
            ask(kind, a, b);
        }
        int what = random.nextInt(14) - 1;
        due("count(" + what + ")", x.count(what), y.count(what));
        what = random.nextInt(9) - 1;
        due("player(" + a + ", " + what + ")", playerOf(true, a, what), playerOf(false, a, what));
    }

    private long playerOf(boolean own, int player, int what) {
        try {
            return own ? x.player(player, what) : y.player(player, what);
        } catch (NoSuchElementException e) {
            return 1L << 40;
        }
    }

    private void change(int what, int v) {
        due("set(" + what + ", " + v + ")", x.set(what, v), y.set(what, v));
    }

    private void changeBy(int kind, int a, int b) {
        switch (kind) {
            case 5:
                int what = random.nextInt(6) - 1;
                int v = what == 1 ? random.nextInt(random.nextInt(3) == 0 ? 32 : 11) : what == 3 ? random.nextInt(120) : small(4);
                change(what, v);
                break;
            case 6:
                int value = random.nextBoolean() ? small(10) : small(50);
                int told = random.nextInt(4);
                due("tell(" + a + ", " + told + ", " + value + ")", x.tell(a, told, value), y.tell(a, told, value));
                break;
            case 7:
                int bar = random.nextInt(4) == 0 ? small(29) : small(9);
                boolean is = random.nextBoolean();
                due("mark(" + bar + ", " + is + ")", x.mark(bar, is), y.mark(bar, is));
                break;
            case 8:
            case 9:
                due("day(" + a + ")", x.day(a), y.day(a));
                break;
            case 10:
                due("undo()", x.undo(), y.undo());
                break;
            case 11:
                if (random.nextBoolean()) {
                    due("image()", x.image(), y.image());
                } else {
                    due("back()", x.back(), y.back());
                }
                break;
            default:
                int at = small(29);
                int player = small(5);
                int time = random.nextInt(3) > 0 ? y.time(player, at, 1) : small(9999);
                due("roll(" + player + ", " + at + ", " + time + ")", x.roll(player, at, time), y.roll(player, at, time));
        }
    }

    private void ask(int kind, int a, int b) {
        int what = random.nextInt(8) == 0 ? small(2) : random.nextInt(2);
        int bar = random.nextInt(4) == 0 ? small(29) : small(10);
        String w = "(" + what + ")";
        switch (kind) {
            case 13:
            case 14:
                int v = random.nextInt(4) - 1;
                due("time(" + a + ", " + bar + ", " + v + ")", x.time(a, bar, v), y.time(a, bar, v));
                break;
            case 15:
                due("spread(" + bar + ")", x.spread(bar), y.spread(bar));
                break;
            case 16:
                due("worst" + w, x.worst(what), y.worst(what));
                break;
            case 17:
                due("parts()", x.parts(), y.parts());
                break;
            case 18:
                due("last(" + bar + ")", x.last(bar), y.last(bar));
                break;
            case 19:
                due("settle" + w, x.settle(what), y.settle(what));
                break;
            case 20:
                due("ring(" + a + ")", x.ring(a), y.ring(a));
                break;
            case 21:
                due("head(" + a + ")", x.head(a), y.head(a));
                break;
            case 22:
                if (y.count(0) < 5 || random.nextInt(4) == 0) {
                    due("week" + w, x.week(what), y.week(what));
                }
                break;
            case 23:
                due("leader(" + a + ", " + what + ")", x.leader(a, what), y.leader(a, what));
                break;
            case 24:
                due("marks" + w, x.marks(what), y.marks(what));
                break;
            default:
                askMore(kind, a, b, what, bar);
        }
    }

    private void askMore(int kind, int a, int b, int what, int bar) {
        String w = "(" + what + ")";
        switch (kind) {
            case 25:
                due("odds(" + a + ", " + b + ")", x.odds(a, b), y.odds(a, b));
                break;
            case 26:
                due("paid(" + a + ")", x.paid(a), y.paid(a));
                break;
            case 27:
                due("fits(" + a + ")", x.fits(a), y.fits(a));
                break;
            case 28:
                due("deaf(" + a + ")", x.deaf(a), y.deaf(a));
                break;
            case 29:
                due("echoes" + w, x.echoes(what), y.echoes(what));
                break;
            case 30:
                due("gift" + w, x.gift(what), y.gift(what));
                break;
            case 31:
                due("tune(" + a + ", " + what + ")", x.tune(a, what), y.tune(a, what));
                break;
            case 32:
                due("place(" + bar + ", " + a + ")", x.place(bar, a), y.place(bar, a));
                break;
            case 33:
                due("overtakes(" + a + ", " + b + ")", x.overtakes(a, b), y.overtakes(a, b));
                break;
            case 34:
                due("middle()", x.middle(), y.middle());
                break;
            case 35:
                due("ends" + w, x.ends(what), y.ends(what));
                break;
            case 36:
                int by = small(20);
                due("stray(" + a + ", " + by + ")", x.stray(a, by), y.stray(a, by));
                break;
            case 37:
                int day = random.nextBoolean() ? small(20) : small(999);
                due("damp(" + day + ")", x.damp(day), y.damp(day));
                break;
            default:
                int n = small(60);
                due("end(" + n + ")", x.end(n), y.end(n));
        }
    }
}
