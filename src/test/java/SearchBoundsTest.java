/** Sentences of the document about what had best be told, and what may have been, that name a boundary case. */
public final class SearchBoundsTest extends Asking {
    private static final String PAIR = "pb60;pb50f0h5;mb55";

    public static void main(String[] args) {
        SearchBoundsTest t = new SearchBoundsTest();
        t.week();
        t.weekOfSeveral();
        t.weekByDays();
        t.weekAnew();
        t.leader();
        t.leaderOfNone();
        t.marks();
        t.marksOfSeveral();
        t.marksNotTheLatest();
        t.marksOfNone();
        t.odds();
        t.oddsHeld();
        t.paid();
        t.roll();
        t.fits();
        t.fitsBars();
        t.deaf();
        t.echoes();
        t.gift();
        t.tune();
        t.tuneNearest();
        t.asTold();
        t.nothingTold();
        t.sixPlayers();
        t.check.close("SearchBoundsTest");
    }

    private void weekOf(BorrowedBeat x, int row, int much) {
        due("row", x.week(0), row);
        due("how much", x.week(1), much);
    }

    private void week() {
        says("all rows of six DAYS from now on (each with the METRONOME at a PLAYER");
        weekOf(Check.town("pb60d1"), 0, 0);
        // alike as they are, but the METRONOME must be somewhere: at best at both, 99 against 109
        BorrowedBeat x = Check.town("pb60;pb50;mb99");
        x.tell(1, 2, 10);
        due("alike now", x.worst(0), 0);
        weekOf(x, 1, 90);
        says("WEEK: the row (0), how much (1). NONE: no TOWN, no such what, not six DAYS more.");
        weekOf(new BorrowedBeat(), NONE, NONE);
        int[] none = {-1, 2, Integer.MAX_VALUE, Integer.MIN_VALUE};
        for (int what : none) {
            due("week(" + what + ")", x.week(what), NONE);
        }
        due("no DAY went by", x.count(4), 0);
        due("nothing to undo", x.count(11), 0);
        row("BEATS stay", beatsNow(x, 2), 60, 50);
    }

    private void weekOfSeveral() {
        says("of several the least as digits to the base 10, the first DAY the highest");
        weekOf(Check.town("p"), 0, 0);
        weekOf(Check.town("p;p;p;p;p;p"), 0, 0);
        weekOf(Check.town("pb50;p;p;p;p;p"), 0, 0);
        weekOf(Check.town("p;p;p;p;p;pb50"), 5, 0);
        weekOf(Check.town("pb1;pb2;pb3;p;p;p"), 12, 0);
        weekOf(Check.town("p;p;p;pb1;pb2;pb3"), 345, 0);
        weekOf(Check.town("pb1;pb2;pb3;pb4;pb5;pb6"), 12345, 0);
        // the DAY of each is told by what it is LATE: 65 behind the WEEK for each in this row alone
        BorrowedBeat x = Check.town("pd1;pd1;pd1;pd1;pd1;pd1");
        int[] days = {5, 3, 1, 0, 2, 4};
        for (int p = 0; p < 6; p++) {
            x.tell(p, 2, days[p]);
        }
        weekOf(x, 324150, 0);
        BorrowedBeat other = Check.town("pd1;pd1;pd1;pd1;pd1;pd1");
        for (int p = 0; p < 6; p++) {
            other.tell(p, 2, p);
        }
        weekOf(other, 12345, 0);
        BorrowedBeat most = Check.town("pd1;pd1;pd1;pd1;pd1;pd1");
        for (int p = 0; p < 6; p++) {
            most.tell(p, 2, 5 - p);
        }
        weekOf(most, 543210, 0);
        // one apart at least: nine in the end; the last two DAYS for one each
        weekOf(Check.town("pd1;pd1"), 1, 9);
        // PLAYER 1 two LATE: visited two DAYS ahead of the last one of PLAYER 0
        BorrowedBeat two = Check.town("pd1k1;pd1k1");
        two.tell(1, 2, 2);
        weekOf(two, 100, 0);
        // of one bar 62 against 62; by 000001 one apart, 59 against 60
        BorrowedBeat near = Check.town("pd3k1;pd1");
        near.tell(0, 2, 2);
        near.set(1, 1);
        weekOf(near, 100, 0);
    }

    private void weekByDays() {
        says("DAMP by DAYS");
        // of 0 1 2 .. by DAYS only the last two are 4 and 5, so 5 less, nine times
        weekOf(townWithLaw("pd1k2;pd1k2", "y:d"), 1, 45);
        weekOf(townWithLaw("pd1k2;pd1k2", "y:5-d"), 1, 0);
        weekOf(townWithLaw("pd1k2;pd1k2", "y:d=5?0;y:9"), 1, 0);
        weekOf(townWithLaw("pd1k3;pd1k3", "y:d=5?2;y:d=4?1"), 1, 18);
        BorrowedBeat x = townWithLaw("pd1k2;pd1k2", "y:d=6?7");
        weekOf(x, 0, 0);
        x.day(NONE);
        weekOf(x, 0, 63);
        x.day(NONE);
        weekOf(x, 1, 0);
        letDaysGoBy(x, 5);
        due("DAY", x.count(4), 7);
        row("BEATS behind DAY 6", beatsNow(x, 2), 67, 67);
        weekOf(x, 1, 0);
    }

    /** What was asked ahead must not answer for what is told since. */
    private void weekAnew() {
        says("that behind which WORST is least");
        BorrowedBeat x = Check.town("pb50;pb40;mb60");
        weekOf(x, 1, 0);
        x.tell(1, 2, 20);
        weekOf(x, 0, 0);
        x.tell(1, 2, 0);
        weekOf(x, 1, 0);
        x.tell(1, 2, 25);
        weekOf(x, 0, 45);
        x.mark(2, true);
        weekOf(x, 0, 30);
        x.mark(5, true);
        weekOf(x, 0, 15);
        x.set(1, 2);
        weekOf(x, 0, 10);
        x.set(1, 9);
        x.mark(2, false);
        weekOf(x, 0, 30);
        x.tell(0, 0, 1);
        x.tell(0, 1, 10);
        // 60 40 40 .. against 65 65 65 ..: 5, then 25 more in each bar up to the mark
        weekOf(x, 0, 130);
        x.tell(0, 1, 0);
        weekOf(x, 0, 30);
        x.tell(0, 0, NONE);
        x.day(0);
        weekOf(x, 0, 30);
        x.undo();
        x.image();
        x.day(1);
        weekOf(x, 0, 150);
        x.back();
        weekOf(x, 0, 30);
        Check.give(x, 0, "p;pb3");
        weekOf(x, 1, 0);
        BorrowedBeat by = townWithLaw("pd1k2;pd1k2", "y:d=5?9");
        weekOf(by, 0, 81);
        by.set(0, NONE);
        weekOf(by, 0, 0);
        by.set(0, 0);
        weekOf(by, 0, 81);
        // both 60, so five apart in each bar; by an ECHO better 60 70 70 .. against 75 70 68 ..
        BorrowedBeat echo = Check.town("pb10f1h10;pb70f0h5;mb60");
        echo.tell(1, 2, 5);
        echo.set(1, 4);
        int[] rows = {1, 0, 0, 1};
        int[] worsts = {20, 19, 15, 20};
        for (int i = 0; i < 4; i++) {
            echo.set(2, i % 3);
            weekOf(echo, rows[i], worsts[i]);
        }
    }

    private void leader() {
        says("whom it had best FOLLOW (by its HOW much; nobody, too), so that WORST is least (of several nobody, then the lowest)");
        BorrowedBeat x = Check.town("pb60;pb50h10;pb60");
        due("the lowest of two", x.leader(1, 0), 0);
        due("WORST then", x.leader(1, 1), 10);
        BorrowedBeat two = Check.town("pb55;pb50h10;pb60;pb60");
        due("the lowest of two, not of all", two.leader(1, 0), 2);
        due("WORST then", two.leader(1, 1), 45);
        due("nobody, as nothing is less", Check.town("pb60;pb50;pb60").leader(0, 0), NONE);
        due("how much", Check.town("pb60;pb50;pb60").leader(0, 1), 90);
        due("all alike", Check.town("pf1;pf0").leader(0, 0), NONE);
        due("the only one", Check.town("p").leader(0, 0), NONE);
        due("the only one, how much", Check.town("p").leader(0, 1), 0);
        BorrowedBeat how = Check.town("pb60;pb50h0");
        int[] worsts = {90, 68, 47, 32, 28, 25, 19, 16, 14, 12, 10};
        due("by no tenths nobody", how.leader(1, 0), NONE);
        due("by no tenths", how.leader(1, 1), 90);
        for (int much = 5; much <= 10; much += 5) {
            how.tell(1, 1, much);
            due("by some tenths", how.leader(1, 0), 0);
            due("by " + much + " tenths", how.leader(1, 1), worsts[much]);
        }
        due("nobody better than whom it FOLLOWS", Check.town("pb60;pb60f2h10;pb90;pb90").leader(1, 1), 270);
        BorrowedBeat still = Check.town("pb60f1h10;pb50");
        still.tell(1, 2, 10);
        due("nobody, where one FOLLOWS", still.leader(0, 0), NONE);
        due("nobody, how much", still.leader(0, 1), 0);
        due("it FOLLOWS as it did", player(still, 0, 4), 1);
        // the third PLAYER of another TOWN would be the best to FOLLOW
        BorrowedBeat fewer = Check.town("pb70;pb70;pb70");
        fewer.worst(0);
        Check.give(fewer, 0, "pb60h10;pb50");
        fewer.tell(1, 2, 20);
        due("a PLAYER of this TOWN", fewer.leader(0, 0), NONE);
        due("a PLAYER of this TOWN, how much", fewer.leader(0, 1), 90);
    }

    private void leaderOfNone() {
        says("LEADER: whom (0; NONE: nobody), how much (1). HIDDEN: no such ones.");
        BorrowedBeat x = Check.town("p;p");
        due("no TOWN", new BorrowedBeat().leader(0, 0), HIDDEN);
        due("no TOWN, how much", new BorrowedBeat().leader(0, 1), HIDDEN);
        int[] none = {-1, 2, 6, Integer.MAX_VALUE, Integer.MIN_VALUE};
        for (int n : none) {
            due("leader(" + n + ", 0)", x.leader(n, 0), HIDDEN);
            due("leader(0, " + n + ")", x.leader(0, n), HIDDEN);
        }
        due("the last PLAYER", x.leader(1, 1), 0);
    }

    private void marksOf(BorrowedBeat x, int many, int bits) {
        due("how many", x.marks(0), many);
        due("which", x.marks(1), bits);
    }

    private void marks() {
        says("MARKS: the fewest bars MARKED (these, no others) so that no SPREAD is above LIMIT");
        BorrowedBeat x = Check.town("pb60;pb50");
        x.set(3, 90);
        marksOf(x, 0, 0);
        x.set(3, 89);
        marksOf(x, 1, 1);
        x.mark(0, true);
        x.mark(8, true);
        marksOf(x, 1, 1);
        due("MARKS stay", x.count(9), 257);
        x.set(3, 10);
        marksOf(x, 8, 255);
        x.set(3, 9);
        marksOf(x, NONE, NONE);
        x.set(1, 1);
        marksOf(x, NONE, NONE);
        x.set(3, 10);
        marksOf(x, 0, 0);
        x.set(1, 30);
        marksOf(x, 29, (1 << 29) - 1);
        x.set(3, 0);
        marksOf(x, NONE, NONE);
        marksOf(Check.town("p"), 0, 0);
        BorrowedBeat same = Check.town("p;p");
        same.set(3, 0);
        same.set(1, 30);
        marksOf(same, 0, 0);
        says("MARKS: how many (0), which (1). NONE: it can't be, no TOWN, no such what.");
        marksOf(new BorrowedBeat(), NONE, NONE);
        int[] none = {-1, 2, Integer.MAX_VALUE, Integer.MIN_VALUE};
        for (int what : none) {
            due("marks(" + what + ")", same.marks(what), NONE);
        }
    }

    private void marksOfSeveral() {
        says("as bits (of several the least)");
        BorrowedBeat x = Check.town("pb60;pb50");
        int[][] dues = {{80, 1, 1}, {70, 1, 2}, {60, 1, 4}, {50, 1, 8}, {49, 2, 1 | 16}, {40, 2, 1 | 16}, {39, 2, 4 | 32}, {30, 2, 4 | 32},
            {29, 4, 1 | 4 | 16 | 64}, {20, 4, 1 | 4 | 16 | 64}, {19, 8, 255}};
        for (int[] due : dues) {
            x.set(3, due[0]);
            marksOf(x, due[1], due[2]);
        }
        x.set(1, 30);
        x.set(3, 140);
        marksOf(x, 2, 1 << 1 | 1 << 15);
        x.set(3, 150);
        marksOf(x, 1, 1 << 14);
        x.set(3, 290);
        marksOf(x, 1, 1);
        // one who catches up: 10 apart at first, alike behind: a mark at bar 0 is enough
        BorrowedBeat up = Check.town("pb60;pb50f0h10");
        up.set(3, 9);
        marksOf(up, NONE, NONE);
        up.set(3, 10);
        marksOf(up, 0, 0);
        // 10 apart in bar 0, 10 the other way round in bar 1, and so on: marks make it no better
        BorrowedBeat swap = Check.town("pb60f1h10;pb50f0h10");
        swap.set(3, 10);
        marksOf(swap, 0, 0);
    }

    /** A mark as late as can be is not always the best one: whoever begins anew later may part sooner. */
    private void marksNotTheLatest() {
        says("MARKS: the fewest bars MARKED (these, no others) so that no SPREAD is above LIMIT");
        // bar by bar PLAYER 0 takes 10 parts less, 10 more in four bars, 10 less in four bars: a mark at bar 3 parts them
        // at bar 8 again, one at bar 2 does not
        BorrowedBeat x = Check.town("pb87f1h10;pb97f0h10");
        x.set(2, 3);
        for (int limit = 20; limit < 30; limit++) {
            x.set(3, limit);
            marksOf(x, 1, 4);
        }
        x.mark(2, true);
        due("held by the mark at bar 2", x.parts(), NONE);
        x.mark(2, false);
        x.mark(3, true);
        due("parted behind the mark at bar 3", x.parts(), 8);
        BorrowedBeat six = Check.town("p;pb98f3h5;pb96f5h7;pb42f1h4;p;p");
        six.set(1, 21);
        six.set(2, 3);
        six.set(3, 87);
        marksOf(six, 2, 1 << 3 | 1 << 12);
    }

    private void marksOfNone() {
        says("NONE: it can't be");
        BorrowedBeat x = Check.town("pb60;pb60f2h10;pb60f3h10;pb60f4h10;pb60f5h10;pb99");
        x.set(3, 38);
        marksOf(x, NONE, NONE);
        BorrowedBeat late = Check.town("pb60;pb60f2h10;pb60f3h10;pb99");
        late.tell(3, 2, 0);
        late.tell(0, 2, 39);
        late.tell(1, 2, 39);
        late.tell(2, 2, 39);
        late.set(1, 3);
        due("39 apart in the last bar alone", late.spread(2) - late.spread(1), 39);
        late.set(3, 38);
        marksOf(late, NONE, NONE);
        late.set(3, 39);
        // all alike in bar 0; 39 apart in bar 1 by PLAYER 2, in bar 2 by PLAYERS 1 and 2 anew
        marksOf(late, 1, 2);
        late.set(1, 2);
        marksOf(late, 0, 0);
        late.set(3, 38);
        marksOf(late, NONE, NONE);
        late.set(1, 1);
        marksOf(late, 0, 0);
    }

    private void odds() {
        says("ODDS of a PLAYER for n DAYS (1 .. 6): of all rows of DAMP 0, 1, 2 for these (METRONOME at nobody) behind how many it is LAST");
        // DAMP in all 0 in one row alone: else PLAYER 1 is more
        BorrowedBeat x = Check.town("p;pd1k2");
        int rows = 1;
        for (int n = 1; n <= 6; n++) {
            rows *= 3;
            due("alike, the lowest", x.odds(0, n), 1);
            due("all others", x.odds(1, n), rows - 1);
        }
        BorrowedBeat law = townWithLaw("p;pd1k2;mb99", "y:9");
        due("no LAW", law.odds(0, 3), 1);
        due("no DAY went by", law.count(4), 0);
        row("BEATS stay", beatsNow(law, 2), 60, 60);
        // one less by 2 n: in the one row of nothing but 2 alike, so of two the lowest; in no row more
        for (int n = 1; n <= 6; n++) {
            BorrowedBeat most = Check.town("pb" + (60 + 2 * n) + ";pb60d1k2");
            due("never more", most.odds(1, n), 0);
            BorrowedBeat once = Check.town("pb" + (59 + 2 * n) + ";pb60d1k2");
            due("more by nothing but 2", once.odds(1, n), 1);
        }
        // by DRIFT alone DAYS count, not DAMP
        BorrowedBeat days = Check.town("pb62;pb60d1;pb1d9k1");
        due("1 DAY", days.odds(1, 1), 0);
        due("2 DAYS", days.odds(1, 2), 0);
        due("3 DAYS", days.odds(1, 3), 27);
        due("less for none", days.odds(2, 6), 0);
        due("alone", Check.town("p").odds(0, 6), 729);
        says("ODDS. NONE: no such PLAYER, out of bounds.");
        int[] none = {0, -1, 7, Integer.MAX_VALUE, Integer.MIN_VALUE};
        for (int n : none) {
            due("odds(0, " + n + ")", x.odds(0, n), NONE);
            due("odds(" + n + ", 1)", x.odds(n, 1), n == 0 ? 1 : NONE);
        }
        due("odds(2, 1)", x.odds(2, 1), NONE);
        due("no TOWN", new BorrowedBeat().odds(0, 1), NONE);
    }

    private void oddsHeld() {
        says("held within 1 .. 199. The latest DAYS");
        BorrowedBeat up = Check.town("pb99d9;pb99d9k2");
        letDaysGoBy(up, 12);
        row("held", beatsNow(up, 2), 199, 99);
        due("never above 199", up.odds(1, 6), 0);
        due("so the lowest", up.odds(0, 6), 729);
        BorrowedBeat down = Check.town("pb9d1k3;pb1");
        due("never below 1", down.odds(1, 6), 0);
        due("so the lowest of two of 1", down.odds(0, 6), 729);
        says("it is LAST at the end of the PIECE");
        // 52 114 176 238 300 362 against 60 120 180 240 300 360
        BorrowedBeat end = Check.town("pb60;pb50f0h10");
        end.tell(1, 2, 2);
        int[] lasts = {0, 0, 0, 0, 0, 1, 1, 1};
        for (int bars = 1; bars <= 8; bars++) {
            end.set(1, bars);
            due("of BARS " + bars, end.odds(1, 1), 3 * lasts[bars - 1]);
        }
        end.set(1, 6);
        end.mark(0, true);
        due("behind a mark", end.odds(1, 1), 3);
        end.mark(0, false);
        end.mark(5, true);
        due("at a mark", end.odds(1, 1), 3);
    }

    private void paid() {
        says("PAID: the least that a PLAYER has to be LATE in place of what it is (0 .. 50), so that it is LAST at the end, and the only one");
        due("alone", Check.town("p").paid(0), 0);
        due("ahead anyway", Check.town("pb61;p").paid(0), 0);
        due("alike", Check.town("p;p").paid(0), 1);
        due("alike, the other", Check.town("p;p").paid(1), 1);
        for (int beat = 10; beat <= 60; beat++) {
            int want = beat == 10 ? NONE : 61 - beat;
            due("60 against " + beat, Check.town("pb60;pb" + beat).paid(1), want);
        }
        BorrowedBeat x = Check.town("p;p");
        x.tell(0, 2, 30);
        due("in place of what it is", x.paid(0), 1);
        due("above what another is", x.paid(1), 31);
        due("LATE stays", player(x, 0, 6), 30);
        due("the only one of three", Check.town("pb50;p;p").paid(0), 11);
        x.tell(0, 2, 0);
        x.set(1, 1);
        due("of one bar", x.paid(1), 1);
        BorrowedBeat pair = Check.town(PAIR);
        int[] dues = {11, 8, 7, 6, 5, 4, 4, 4, 3};
        for (int bars = 1; bars <= 9; bars++) {
            pair.set(1, bars);
            due("of BARS " + bars, pair.paid(1), dues[bars - 1]);
        }
        pair.mark(7, true);
        due("behind a mark", pair.paid(1), 2);
        pair.mark(8, true);
        due("at a mark", pair.paid(1), 2);
        says("PAID. NONE: it can't be, no such PLAYER.");
        int[] none = {2, -1, 6, Integer.MAX_VALUE, Integer.MIN_VALUE};
        for (int player : none) {
            due("paid(" + player + ")", pair.paid(player), NONE);
        }
        due("no TOWN", new BorrowedBeat().paid(0), NONE);
    }

    private void roll() {
        says("ROLL (20 at most): at a bar a PLAYER had a TIME (0 .. 9999; behind waiting).");
        BorrowedBeat x = Check.town("p;p");
        int[][] none = {{2, 0, 0}, {-1, 0, 0}, {6, 0, 0}, {0, -1, 0}, {0, 30, 0}, {0, 31, 0}, {0, 0, -1}, {0, 0, 10000},
            {Integer.MAX_VALUE, 0, 0}, {0, Integer.MAX_VALUE, 0}, {0, 0, Integer.MAX_VALUE}, {Integer.MIN_VALUE, 0, 0},
            {0, Integer.MIN_VALUE, 0}, {0, 0, Integer.MIN_VALUE}};
        int[][] some = {{1, 29, 9999}, {0, 0, 0}, {1, 29, 9999}};
        for (int n = 0; n < 20; n++) {
            for (int[] such : none) {
                due("roll of none", x.roll(such[0], such[1], such[2]), NONE);
            }
            due("told so far", x.count(10), n);
            int[] such = some[n % 3];
            due("roll " + n, x.roll(such[0], such[1], such[2]), n + 1);
        }
        says("ROLL: how many there are. NONE: no such ones (bars 0 .. 29), there are 20.");
        due("a twenty-first", x.roll(0, 0, 0), NONE);
        due("twenty", x.count(10), 20);
        due("no TOWN", new BorrowedBeat().roll(0, 0, 0), NONE);
        says("(0 .. 9999; behind waiting)");
        BorrowedBeat waits = Check.town("pb60;pb50");
        waits.mark(0, true);
        waits.roll(1, 0, 60);
        due("behind waiting", waits.fits(1), 64 | 1);
        waits.roll(1, 0, 50);
        due("not ahead of it", waits.fits(1), 0);
    }

    private void fits() {
        says("FITS of a PLAYER: whom it may have FOLLOWED (bits; bit 6 nobody), all others as told, so that all of the ROLL was so.");
        due("nothing told, alone", Check.town("p").fits(0), 64);
        BorrowedBeat six = Check.town("pb10;pb20;pb30;pb40;pb50;pb60");
        for (int p = 0; p < 6; p++) {
            due("nothing told, of six", six.fits(p), 127 - (1 << p));
        }
        // what PLAYER 5 had at bar 1 tells whom it FOLLOWED by five tenths: 60 and 35 40 45 50 55 60
        for (int f = 0; f < 6; f++) {
            BorrowedBeat x = Check.town("pb10;pb20;pb30;pb40;pb50;pb60");
            x.roll(5, 1, 95 + 5 * f);
            due("whom one FOLLOWED", x.fits(5), f == 5 ? 64 : 1 << f);
            due("others had nothing to do with it", x.fits(0), f == 5 ? 126 : 0);
            due("it FOLLOWS nobody still", player(x, 5, 4), NONE);
            x.tell(5, 0, f == 5 ? NONE : f);
            due("all others as told", x.fits(1), 127 - 2);
            x.roll(0, 0, 11);
            due("all of the ROLL", x.fits(5), 0);
        }
        BorrowedBeat bar = Check.town("pb10;pb20;pb20");
        bar.roll(0, 0, 10);
        due("in bar 0 nobody was heard", bar.fits(0), 64 | 2 | 4);
        bar.roll(0, 1, 25);
        due("two alike", bar.fits(0), 2 | 4);
        says("FITS, as bits. NONE: no such PLAYER.");
        int[] none = {3, -1, 6, Integer.MAX_VALUE, Integer.MIN_VALUE};
        for (int p : none) {
            due("fits(" + p + ")", bar.fits(p), NONE);
        }
        due("no TOWN", new BorrowedBeat().fits(0), NONE);
    }

    private void fitsBars() {
        says("(What is told of bars that the PIECE has not, is not so.)");
        BorrowedBeat x = Check.town("p;p");
        due("of bar 9 of 9", x.roll(0, 9, 600), 1);
        due("it has not", x.fits(0), 0);
        due("it has not, of another", x.fits(1), 0);
        x.set(1, 10);
        due("it has", x.fits(0), 64 | 2);
        x.set(1, 9);
        due("it has not again", x.fits(0), 0);
        BorrowedBeat last = Check.town("p;p");
        last.roll(0, 29, 1800);
        last.set(1, 29);
        due("bar 29 of 29", last.fits(0), 0);
        last.set(1, 30);
        due("bar 29 of 30", last.fits(0), 64 | 2);
    }

    private void deaf() {
        says("DEAF: WORST, if a PLAYER FOLLOWED nobody.");
        BorrowedBeat x = Check.town("pb60;pb50f0h10;pb40f1h10");
        due("who FOLLOWS nobody", x.deaf(0), x.worst(0));
        due("deaf(1)", x.deaf(1), 100);
        due("deaf(2)", x.deaf(2), 180);
        due("it FOLLOWS still", player(x, 2, 4), 1);
        due("alone", Check.town("p").deaf(0), 0);
        says("DEAF. NONE: no such PLAYER.");
        int[] none = {3, -1, 6, Integer.MAX_VALUE, Integer.MIN_VALUE};
        for (int p : none) {
            due("deaf(" + p + ")", x.deaf(p), NONE);
        }
        due("no TOWN", new BorrowedBeat().deaf(0), NONE);
    }

    private void echoesOf(String town, int bars, int which, int... worsts) {
        BorrowedBeat x = Check.town(town);
        x.set(1, bars);
        for (int echo = 0; echo <= 3; echo++) {
            x.set(2, echo);
            due("WORST by ECHO " + echo, x.worst(0), worsts[echo]);
            due("which", x.echoes(0), which);
            due("how much", x.echoes(1), worsts[which]);
            due("ECHO stays", x.count(7), echo);
        }
    }

    private void echoes() {
        says("ECHOES: the ECHO (0 .. 3) by which WORST is least (of several the least); how much.");
        echoesOf("pb60;pb50", 9, 0, 90, 90, 90, 90);
        echoesOf(PAIR, 9, 0, 25, 25, 25, 25);
        echoesOf("pb60;pb50f0h10;pb40f1h10", 9, 0, 30, 40, 50, 60);
        echoesOf("pb50f2h10;pb50f2h5;pb30f0h10", 7, 1, 27, 23, 40, 60);
        echoesOf("pb60f2h10;pb10f2h5;pb80f0h10", 5, 2, 124, 121, 112, 117);
        echoesOf("pb80f1h10;pb90f0h10;pb20f1h5", 7, 3, 135, 129, 129, 127);
        says("ECHOES: which (0), how much (1). NONE: no TOWN, no such what.");
        due("no TOWN", new BorrowedBeat().echoes(0), NONE);
        due("no TOWN, how much", new BorrowedBeat().echoes(1), NONE);
        due("echoes(2)", Check.town("p").echoes(2), NONE);
        due("echoes(-1)", Check.town("p").echoes(-1), NONE);
    }

    private void giftOf(BorrowedBeat x, int whom, int much) {
        due("to whom", x.gift(0), whom);
        due("how much", x.gift(1), much);
    }

    private void gift() {
        says("so that WORST behind it is least (of several the lowest); how much.");
        giftOf(Check.town("p"), 0, 0);
        giftOf(Check.town("p;p;p;p;p;p"), 0, 0);
        giftOf(Check.town("p;p;p;p;p;pb1"), 5, 0);
        giftOf(Check.town("pb50;pb50;p"), 0, 90);
        giftOf(Check.town("pb50;pb70;p"), 0, 90);
        giftOf(Check.town("pb49;pb70;pb70"), 0, 90);
        giftOf(Check.town("p;pd3;p;pd3"), 0, 27);
        giftOf(Check.town("p;p;pd3;p"), 2, 0);
        // alike as they are; the METRONOME at one makes it worse, at nobody would not
        BorrowedBeat x = Check.town("pb50;pb50;mb60");
        giftOf(x, 0, 90);
        says("to which PLAYER the METRONOME had best go for the next DAY (DAMP of that DAY)");
        BorrowedBeat wet = townWithLaw("p;pd1k2", "y:d");
        giftOf(wet, 0, 0);
        wet.day(NONE);
        giftOf(wet, 1, 0);
        due("no DAY went by", wet.count(4), 1);
        row("BEATS stay", beatsNow(wet, 2), 60, 60);
        wet.set(0, NONE);
        giftOf(wet, 0, 0);
        says("GIFT: to whom (0), how much (1). NONE: no TOWN, no such what, behind DAY 999.");
        giftOf(new BorrowedBeat(), NONE, NONE);
        due("gift(2)", x.gift(2), NONE);
        due("gift(-1)", x.gift(-1), NONE);
    }

    private void tune() {
        says("TUNE of a PLAYER: the HOW much (0 .. 10) nearest to its own (of two the less) with which there is no PARTING; WORST then.");
        // WORST of PAIR by HOW much of PLAYER 1, the more the less; and of its mirror, the more the more
        tuneBy(PAIR, 1);
        tuneBy("pb50;pb60f0h5", 1);
        BorrowedBeat mirror = Check.town("pb50;pb60f0h10");
        mirror.tell(0, 2, 10);
        mirror.set(3, 0);
        due("from 10 to 0", mirror.tune(1, 0), 0);
        due("WORST then", mirror.tune(1, 1), 0);
        mirror.set(3, 999);
        due("its own", mirror.tune(1, 0), 10);
        due("its own WORST", mirror.tune(1, 1), mirror.worst(0));
        due("HOW much stays", player(mirror, 1, 5), 10);
        says("TUNE: HOW much (0), WORST then (1). NONE: there is none, no such ones.");
        BorrowedBeat x = Check.town(PAIR);
        x.set(3, 9);
        for (int what = 0; what <= 1; what++) {
            due("there is none", x.tune(1, what), NONE);
            due("there is none for another", x.tune(0, what), NONE);
        }
        x.set(3, 10);
        due("by 10 alone", x.tune(1, 0), 10);
        due("10", x.tune(1, 1), 10);
        int[] none = {2, -1, 6, Integer.MAX_VALUE, Integer.MIN_VALUE};
        for (int n : none) {
            due("tune(" + n + ", 0)", x.tune(n, 0), NONE);
            due("tune(1, " + n + ")", x.tune(1, n), NONE);
        }
        due("no TOWN", new BorrowedBeat().tune(0, 0), NONE);
    }

    /** Each HOW much of its own and each LIMIT that is the WORST by some HOW much, or one less. */
    private void tuneBy(String town, int player) {
        BorrowedBeat x = Check.town(town);
        int[] worsts = new int[11];
        for (int how = 0; how <= 10; how++) {
            x.tell(player, 1, how);
            worsts[how] = x.worst(0);
        }
        for (int own = 0; own <= 10; own++) {
            x.tell(player, 1, own);
            for (int k = 0; k <= 21; k++) {
                int limit = worsts[k / 2] - k % 2;
                int best = NONE;
                for (int how = 0; how <= 10 && limit >= 0; how++) {
                    boolean nearer = best == NONE || Math.abs(how - own) < Math.abs(best - own);
                    best = worsts[how] <= limit && nearer ? how : best;
                }
                if (limit >= 0) {
                    x.set(3, limit);
                    due("of " + town + ", own " + own + ", LIMIT " + limit, x.tune(player, 0), best);
                    due("WORST of that", x.tune(player, 1), best == NONE ? NONE : worsts[best]);
                }
            }
        }
    }

    private void tuneNearest() {
        says("nearest to its own (of two the less)");
        String twin = "pb70f2h10;pb60f2h6;pb70f1h8";
        tuneBy(twin, 0);
        tuneBy(twin, 1);
        tuneBy(twin, 2);
        BorrowedBeat x = Check.town(twin);
        x.set(3, 15);
        x.tell(1, 1, 5);
        due("by 5 no PARTING", x.parts(), NONE);
        x.tell(1, 1, 7);
        due("by 7 no PARTING", x.parts(), NONE);
        x.tell(1, 1, 6);
        due("by 6 PARTING", x.parts() != NONE, true);
        due("of two the less", x.tune(1, 0), 5);
        tuneBy("pb60f2h10;pb10f2h5;pb80f0h10", 0);
        tuneBy("pb40f2h10;pb40f2h4;pb60f0h10", 2);
    }

    /** What is asked goes by all that is told: BARS, ECHO, LATE, MARKS. */
    private void asTold() {
        says("ECHO as it is");
        for (int echo = 0; echo <= 3; echo++) {
            BorrowedBeat x = Check.town("pb60f2h10;pb10f2h5;pb80f0h10;pb40");
            x.set(1, 5);
            x.set(2, echo);
            alike(x);
            x.mark(1, true);
            alike(x);
            x.tell(0, 2, 7);
            alike(x);
            x.set(1, 12);
            alike(x);
            x.day(1);
            alike(x);
        }
    }

    /** PLAYER 3 FOLLOWS nobody: so it is DEAF, and its HOW much is all one. */
    private void alike(BorrowedBeat x) {
        int worst = x.worst(0);
        due("DEAF as it is", x.deaf(3), worst);
        x.set(3, worst);
        due("TUNE as it is", x.tune(3, 1), worst);
        due("TUNE as it is, HOW much", x.tune(3, 0), 5);
        x.set(3, worst - 1);
        due("no TUNE", x.tune(3, 0), NONE);
        int bar = x.count(6) - 1;
        int most = x.time(x.last(bar), bar, 0);
        int late = (int) player(x, 3, 6);
        int paid = x.paid(3);
        if (paid > 0) {
            x.tell(3, 2, paid);
            due("LAST when paid", x.last(bar), 3);
            due("the only one", x.place(bar, 3), 3);
            x.tell(3, 2, paid - 1);
            due("one less is not enough", x.last(bar) != 3 || x.time(3, bar, 0) == x.time(x.place(bar, 2), bar, 0), true);
            x.tell(3, 2, late);
        }
        due("as it was", x.time(x.last(bar), bar, 0), most);
        for (int p = 0; p < 4; p++) {
            int whom = x.leader(p, 0);
            int least = x.leader(p, 1);
            int follows = (int) player(x, p, 4);
            x.tell(p, 0, whom);
            due("WORST by the LEADER", x.worst(0), least);
            x.tell(p, 0, follows);
        }
        int echo = x.count(7);
        int least = x.echoes(1);
        x.set(2, x.echoes(0));
        due("WORST by the ECHO", x.worst(0), least);
        x.set(2, echo);
        int whom = x.gift(0);
        least = x.gift(1);
        x.day(whom);
        due("WORST behind the GIFT", x.worst(0), least);
        x.undo();
        int row = x.week(0);
        least = x.week(1);
        for (int digit = 100000; digit > 0; digit /= 10) {
            x.day(row / digit % 10);
        }
        due("WORST behind the WEEK", x.worst(0), least);
        for (int i = 0; i < 6; i++) {
            x.undo();
        }
        due("as it was", x.worst(0), worst);
    }

    private void sixPlayers() {
        says("p (a PLAYER; 1 .. 6)");
        BorrowedBeat x = Check.town("pb10;pb20;pb30;pb40;pb50;pb60");
        x.set(1, 30);
        x.set(3, 999);
        due("TIME", x.time(5, 29, 0), 1800);
        due("WORST", x.worst(0), 1500);
        due("its bar", x.worst(1), 29);
        due("PARTING", x.parts(), 19);
        due("LAST", x.last(29), 5);
        due("PLACE", x.place(29, 5), 5);
        due("MIDDLE", x.middle(), 2);
        due("ENDS", x.ends(1), 300);
        due("SETTLE", x.settle(1), 1);
        due("STRAY", x.stray(5, 1), NONE);
        due("OVERTAKES", x.overtakes(5, 0), 0);
        // nobody: 50 apart; PLAYER 1: behind it for ever; PLAYER 2: behind PLAYER 1 at first alone
        due("LEADER", x.leader(0, 0), 2);
        due("LEADER, how much", x.leader(0, 1), 1200);
        marksOf(x, 1, 1 << 10);
        due("ODDS", x.odds(5, 6), 729);
        due("ODDS of another", x.odds(0, 6), 0);
        due("PAID", x.paid(5), 0);
        due("PAID of another", x.paid(1), 41);
        due("PAID, it can't be", x.paid(0), NONE);
        due("ROLL", x.roll(5, 29, 1800), 1);
        due("FITS", x.fits(5), 64);
        due("FITS of another", x.fits(0), 126);
        due("DEAF", x.deaf(5), 1500);
        due("ECHOES", x.echoes(1), 1500);
        due("TUNE", x.tune(5, 0), NONE);
        giftOf(x, 0, 1200);
        weekOf(x, 1234, 0);
        due("a DAY", x.day(5), 1);
    }

    private void nothingTold() {
        says("By hand FOLLOWS, HOW much, LATE, MARKS, BARS, ECHO, LIMIT are told.");
        BorrowedBeat x = Check.town("pb60f2h10;pb10f2h5;pb80f0h10;pb40");
        x.tell(3, 2, 9);
        x.mark(4, true);
        x.set(2, 2);
        for (int p = 0; p < 4; p++) {
            x.leader(p, 0);
            x.deaf(p);
            x.fits(p);
            x.tune(p, 0);
            x.paid(p);
            x.odds(p, 6);
        }
        x.echoes(0);
        x.gift(0);
        x.week(0);
        x.marks(0);
        x.settle(0);
        int[][] dues = {{60, 10, 80, 40}, {60, 10, 80, 40}, {0, 0, 0, 0}, {0, 0, 0, 0}, {2, 2, 0, NONE}, {10, 5, 10, 5}, {0, 0, 0, 9}};
        for (int what = 0; what < dues.length; what++) {
            for (int p = 0; p < 4; p++) {
                due("who asks changes nothing: player(" + p + ", " + what + ")", player(x, p, what), dues[what][p]);
            }
        }
        int[] counts = {4, 60, 0, 0, 0, NONE, 9, 2, 20, 16, 0, 0};
        for (int what = 0; what < counts.length; what++) {
            due("who asks changes nothing: count(" + what + ")", x.count(what), counts[what]);
        }
    }
}
