import java.util.NoSuchElementException;

/** What tests have in common: constants, and questions that take more than one call. */
abstract class Asking {
    static final int NONE = BorrowedBeat.NONE;
    static final int HIDDEN = BorrowedBeat.HIDDEN;

    /** Stands for a NoSuchElementException. */
    static final long THROWN = Long.MIN_VALUE;

    final Check check = new Check();

    final void says(String words) {
        check.says(words);
    }

    final void due(String call, long got, long want) {
        check.due(call, got, want);
    }

    final void due(String call, boolean got, boolean want) {
        check.due(call, got, want);
    }

    final void row(String call, int[] got, int... want) {
        due(call + " length", got.length, want.length);
        for (int i = 0; i < want.length && i < got.length; i++) {
            due(call + " " + i, got[i], want[i]);
        }
    }

    final void towns(int fault, String... texts) {
        for (String text : texts) {
            due("fault(0) of '" + text + "'", Check.fault(0, text), fault);
        }
    }

    final void laws(int fault, String... texts) {
        for (String text : texts) {
            due("fault(1) of '" + text + "'", Check.fault(1, text), fault);
        }
    }

    /** DAMPS from DAY 0 on by this LAW, asked from the last to the first and again from the first on. */
    final void dampsIn(String town, String law, int... damps) {
        BorrowedBeat x = Check.town(town);
        due("LAW " + law, Check.give(x, 1, law), 0);
        x.set(0, 0);
        for (int day = damps.length - 1; day >= 0; day--) {
            due("damp(" + day + ") by " + law, x.damp(day), damps[day]);
        }
        for (int day = 0; day < damps.length; day++) {
            due("damp(" + day + ") again by " + law, x.damp(day), damps[day]);
        }
    }

    static BorrowedBeat townWithLaw(String town, String law) {
        BorrowedBeat x = Check.town(town);
        Check.give(x, 1, law);
        x.set(0, 0);
        return x;
    }

    static void letDaysGoBy(BorrowedBeat x, int days) {
        for (int i = 0; i < days; i++) {
            x.day(NONE);
        }
    }

    static long player(BorrowedBeat x, int player, int what) {
        try {
            return x.player(player, what);
        } catch (NoSuchElementException e) {
            return THROWN;
        }
    }

    static int[] beats(BorrowedBeat x, int player, int count) {
        int[] row = new int[count];
        for (int bar = 0; bar < count; bar++) {
            row[bar] = x.time(player, bar, 2);
        }
        return row;
    }

    static int[] beatsNow(BorrowedBeat x, int players) {
        int[] row = new int[players];
        for (int i = 0; i < players; i++) {
            row[i] = (int) player(x, i, 0);
        }
        return row;
    }

    static int[] times(BorrowedBeat x, int player, int what) {
        int[] row = new int[x.count(6)];
        for (int bar = 0; bar < row.length; bar++) {
            row[bar] = x.time(player, bar, what);
        }
        return row;
    }

    static int[] spreads(BorrowedBeat x) {
        int[] row = new int[x.count(6)];
        for (int bar = 0; bar < row.length; bar++) {
            row[bar] = x.spread(bar);
        }
        return row;
    }
}
