import java.util.NoSuchElementException;
import java.util.Random;

/** Wild numbers and wild orders of calls: nothing may be thrown but what the document names. */
public final class EdgesTest {
    private static final int[] WILD = {0, 1, -1, 2, 5, 6, 7, 9, 10, 29, 30, 31, 32, 33, 50, 51, 60, 63, 64, 99, 100, 159, 160, 161,
        199, 200, 201, 999, 1000, 1001, 9999, 10000, -2, -31, -32, -33, -1000000, Integer.MAX_VALUE, Integer.MIN_VALUE,
        Integer.MAX_VALUE - 1, Integer.MIN_VALUE + 1, 1 << 30, 1 << 16};

    private final Random random = new Random(39);
    private final RandomTexts texts = new RandomTexts(random);
    private final Check check = new Check();

    public static void main(String[] args) {
        EdgesTest test = new EdgesTest();
        for (int i = 0; i < 300; i++) {
            test.run(i);
        }
        test.check.close("EdgesTest");
    }

    private int wild() {
        return random.nextInt(3) > 0 ? random.nextInt(8) - 1 : WILD[random.nextInt(WILD.length)];
    }

    private void run(int number) {
        BorrowedBeat x = new BorrowedBeat();
        for (int i = 0; i < 512; i++) {
            String call = "run " + number + ", call " + i;
            int thrown = 0;
            try {
                call(x, random.nextInt(45));
            } catch (RuntimeException | Error e) {
                thrown = 1;
                e.printStackTrace(System.out);
            }
            check.due(call + " throws", thrown, 0);
        }
    }

    private void call(BorrowedBeat x, int which) {
        int a = wild();
        int b = wild();
        int c = wild();
        switch (which) {
            case 0:
                x.feed(random.nextInt(), wild(), wild(), random.nextInt(), wild());
                break;
            case 1:
                x.end(a);
                break;
            case 2:
                x.fault(a);
                break;
            case 3:
                x.text(a);
                break;
            case 4:
                playerOrNone(x, a, b);
                break;
            case 5:
                x.set(a, b);
                break;
            case 6:
                x.tell(a, b, c);
                break;
            case 7:
                x.mark(a, random.nextBoolean());
                break;
            case 8:
                x.damp(a);
                break;
            case 9:
                x.day(a);
                break;
            case 10:
                x.undo();
                break;
            case 11:
                x.time(a, b, c);
                break;
            case 12:
                x.spread(a);
                break;
            case 13:
                x.worst(a);
                break;
            case 14:
                x.parts();
                break;
            case 15:
                x.last(a);
                break;
            case 16:
                x.settle(a);
                break;
            default:
                callOther(x, which, a, b, c);
        }
    }

    private void callOther(BorrowedBeat x, int which, int a, int b, int c) {
        switch (which) {
            case 17:
                x.ring(a);
                break;
            case 18:
                x.head(a);
                break;
            case 19:
                x.week(a);
                break;
            case 20:
                x.leader(a, b);
                break;
            case 21:
                x.marks(a);
                break;
            case 22:
                x.odds(a, b);
                break;
            case 23:
                x.paid(a);
                break;
            case 24:
                x.roll(a, b, c);
                break;
            case 25:
                x.fits(a);
                break;
            case 26:
                x.deaf(a);
                break;
            case 27:
                x.echoes(a);
                break;
            case 28:
                x.gift(a);
                break;
            case 29:
                x.tune(a, b);
                break;
            case 30:
                x.place(a, b);
                break;
            case 31:
                x.overtakes(a, b);
                break;
            case 32:
                x.middle();
                break;
            case 33:
                x.ends(a);
                break;
            case 34:
                x.stray(a, b);
                break;
            case 35:
                x.image();
                break;
            case 36:
                x.back();
                break;
            case 37:
                x.count(a);
                break;
            case 38:
            case 39:
                Check.give(x, 0, texts.town());
                break;
            case 40:
            case 41:
                Check.give(x, 1, texts.blanked(texts.law()));
                break;
            default:
                feedBroken(x);
        }
    }

    private void feedBroken(BorrowedBeat x) {
        String text = random.nextBoolean() ? texts.broken(texts.town(), "pmbdkfh;019 ") : texts.broken(texts.law(), "y:?!([|&;9 ");
        x.end(0);
        Check.feed(x, text);
        x.fault(0);
        x.fault(1);
        x.text(random.nextInt(2));
    }

    /** The one exception of the document, thrown just where it is due. */
    private void playerOrNone(BorrowedBeat x, int player, int what) {
        boolean such = player >= 0 && player < x.count(0) && what >= 0 && what <= 6;
        boolean thrown = false;
        try {
            x.player(player, what);
        } catch (NoSuchElementException e) {
            thrown = true;
        }
        check.due("player(" + player + ", " + what + ") throws", thrown, !such);
    }
}
