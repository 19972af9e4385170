/** Sentences of the document about the PIECE as it is played that name a boundary case, each by itself. */
public final class PieceBoundsTest extends Asking {
    /** TIMES of PLAYER 1: 50 105 162 220 279 338 397 456 515; of PLAYER 0: 60 by 60 up to 540. */
    private static final String PAIR = "pb60;pb50f0h5;mb55";

    public static void main(String[] args) {
        PieceBoundsTest t = new PieceBoundsTest();
        t.bars();
        t.fewerBars();
        t.beatsStay();
        t.late();
        t.how();
        t.heldBeats();
        t.asItWas();
        t.echo();
        t.waiting();
        t.time();
        t.timeOfNone();
        t.spread();
        t.worst();
        t.parting();
        t.greatLimit();
        t.last();
        t.settle();
        t.settleLate();
        t.ring();
        t.head();
        t.place();
        t.overtakes();
        t.overtakesAlike();
        t.middle();
        t.ends();
        t.stray();
        t.told();
        t.marks();
        t.players();
        t.check.close("PieceBoundsTest");
    }

    /** A TOWN whose first PLAYER has BEAT 199 and the others have theirs still. */
    private static BorrowedBeat fast(String others) {
        BorrowedBeat x = Check.town("pb99d9" + others);
        letDaysGoBy(x, 12);
        return x;
    }

    private void bars() {
        says("The PIECE has BARS (1 .. 30; 9 at first)");
        BorrowedBeat x = Check.town(PAIR);
        due("at first", x.count(6), 9);
        due("bar 8", x.time(0, 8, 0), 540);
        due("bar 9", x.time(0, 9, 0), NONE);
        int[] none = {0, -1, 31, 32, Integer.MAX_VALUE, Integer.MIN_VALUE};
        for (int bars : none) {
            due("BARS " + bars, x.set(1, bars), false);
            due("BARS stay", x.count(6), 9);
        }
        for (int bars = 1; bars <= 30; bars++) {
            due("BARS " + bars, x.set(1, bars), true);
            due("count(6)", x.count(6), bars);
            due("the last", x.time(0, bars - 1, 0), 60 * bars);
            due("its SPREAD", x.spread(bars - 1) != NONE, true);
            due("its LAST", x.last(bars - 1), 0);
            due("its PLACE", x.place(bars - 1, 0), 1);
            due("behind it", x.time(0, bars, 1), NONE);
            due("SPREAD behind it", x.spread(bars), NONE);
            due("LAST behind it", x.last(bars), NONE);
            due("PLACE behind it", x.place(bars, 0), NONE);
            due("the greatest", x.ends(0), 60 * bars);
        }
    }

    /** Bars that the PIECE has no more are asked by nobody. */
    private void fewerBars() {
        says("(bars below BARS)");
        BorrowedBeat x = Check.town(PAIR);
        due("PARTING", x.parts(), 4);
        x.set(1, 5);
        due("PARTING in the last of 5", x.parts(), 4);
        x.set(1, 4);
        due("PARTING of 4", x.parts(), NONE);
        due("WORST of 4", x.worst(0), 20);
        due("its bar", x.worst(1), 3);
        due("MARKS of 4", x.marks(0), 0);
        BorrowedBeat far = Check.town("pb90;pb60f2h10;pb60f0h10");
        due("STRAY", far.stray(1, 1), 2);
        far.set(1, 3);
        due("STRAY in the last of 3", far.stray(1, 1), 2);
        far.set(1, 2);
        due("STRAY of 2", far.stray(1, 1), NONE);
        BorrowedBeat over = Check.town(PAIR);
        over.tell(1, 2, 3);
        over.set(1, 8);
        due("alike in the last of 8", over.overtakes(1, 0), 0);
        over.set(1, 9);
        due("ahead in the last of 9", over.overtakes(1, 0), 1);
    }

    private void beatsStay() {
        says("played apart from BEATS as they are (these stay)");
        BorrowedBeat x = Check.town(PAIR);
        due("in the last bar", x.time(1, 8, 2), 59);
        due("as it is", player(x, 1, 0), 50);
        says("its BEAT in bar 0 is as it is");
        due("in bar 0", x.time(1, 0, 2), 50);
        x.day(1);
        due("in bar 0 behind a DAY", x.time(1, 0, 2), 55);
        due("in bar 1", x.time(1, 1, 2), 57);
    }

    private void late() {
        says("as many parts as its BEAT in that bar, and what it is LATE (0 .. 50; 0 at first)");
        BorrowedBeat x = Check.town("pb60;pb1");
        due("at first", player(x, 1, 6), 0);
        due("LATE 0", x.tell(1, 2, 0), true);
        due("LATE 50", x.tell(1, 2, 50), true);
        row("fifty in each bar", times(x, 1, 0), 51, 102, 153, 204, 255, 306, 357, 408, 459);
        row("BEATS without it", beats(x, 1, 3), 1, 1, 1);
        int[] none = {51, -1, Integer.MAX_VALUE, Integer.MIN_VALUE};
        for (int late : none) {
            due("LATE " + late, x.tell(1, 2, late), false);
            due("LATE stays", player(x, 1, 6), 50);
        }
        BorrowedBeat follows = Check.town("pb60;pb60f0h10");
        follows.tell(0, 2, 50);
        row("what one is LATE is not heard", beats(follows, 1, 3), 60, 60, 60);
    }

    private void how() {
        says("HOW much tenths, cut towards 0, of the BEAT that it hears less its own");
        // 60 heard by 50, and 50 heard by 60: ten apart
        for (int how = 0; how <= 10; how++) {
            due("up by " + how, Check.town("pb60;pb50f0h" + how).time(1, 1, 2), 50 + how);
            due("down by " + how, Check.town("pb50;pb60f0h" + how).time(1, 1, 2), 60 - how);
        }
        // nine apart: 0.9 1.8 .. 9
        int[] cut = {0, 0, 1, 2, 3, 4, 5, 6, 7, 8, 9};
        for (int how = 0; how <= 10; how++) {
            due("up, cut by " + how, Check.town("pb59;pb50f0h" + how).time(1, 1, 2), 50 + cut[how]);
            due("down, cut by " + how, Check.town("pb50;pb59f0h" + how).time(1, 1, 2), 59 - cut[how]);
        }
        row("one apart stays apart", beats(Check.town("pb51;pb50f0h9"), 1, 9), 50, 50, 50, 50, 50, 50, 50, 50, 50);
        row("one apart, all tenths", beats(Check.town("pb51;pb50f0h10"), 1, 3), 50, 51, 51);
        BorrowedBeat x = Check.town("p;p");
        int[] none = {11, -1, Integer.MAX_VALUE, Integer.MIN_VALUE};
        for (int how : none) {
            due("HOW much " + how, x.tell(0, 1, how), false);
            due("HOW much stays", player(x, 0, 5), 5);
        }
        due("HOW much 10", x.tell(0, 1, 10), true);
        due("HOW much 0", x.tell(0, 1, 0), true);
    }

    private void heldBeats() {
        says("held within 1 .. 199. It hears");
        row("up to 199", beats(fast(";pb1f0h10"), 1, 3), 1, 199, 199);
        row("up towards 199", beats(fast(";pb1f0h9"), 1, 4), 1, 179, 197, 198);
        BorrowedBeat down = fast("f1h10;pb1");
        row("down to 1", beats(down, 0, 3), 199, 1, 1);
        down.tell(0, 1, 9);
        row("down towards 1", beats(down, 0, 4), 199, 21, 3, 2);
        due("fifty LATE", fast(";p").tell(0, 2, 50), true);
    }

    private void asItWas() {
        says("in the next bar (as it was)");
        BorrowedBeat swap = Check.town("pb60f1h10;pb50f0h10");
        row("PLAYER 0", beats(swap, 0, 5), 60, 50, 60, 50, 60);
        row("PLAYER 1", beats(swap, 1, 5), 50, 60, 50, 60, 50);
        BorrowedBeat turn = Check.town("pb10f1h10;pb20f2h10;pb30f0h10");
        row("a RING turns", beats(turn, 0, 7), 10, 20, 30, 10, 20, 30, 10);
        row("a RING turns too", beats(turn, 2, 7), 30, 10, 20, 30, 10, 20, 30);
        says("who FOLLOWS nobody keeps its own");
        row("keeps", beats(Check.town("pb10h10;pb90"), 0, 4), 10, 10, 10, 10);
    }

    private void echo() {
        says("in the bar ECHO (0 .. 3; 0 at first) ahead of the one just played (that of bar 0, if there was none)");
        BorrowedBeat x = Check.town("pb60;pb50f0h10;pb40f1h10");
        due("at first", x.count(7), 0);
        int[][] rows = {{40, 50, 60, 60, 60, 60, 60}, {40, 50, 50, 60, 60, 60, 60}, {40, 50, 50, 50, 60, 60, 60}, {40, 50, 50, 50, 50, 60, 60}};
        for (int echo = 0; echo <= 3; echo++) {
            due("ECHO " + echo, x.set(2, echo), true);
            due("count(7)", x.count(7), echo);
            row("by ECHO " + echo, beats(x, 2, 7), rows[echo]);
            row("PLAYER 1 by ECHO " + echo, beats(x, 1, 3), 50, 60, 60);
        }
        int[] none = {-1, 4, Integer.MAX_VALUE, Integer.MIN_VALUE};
        for (int echo : none) {
            due("ECHO " + echo, x.set(2, echo), false);
            due("ECHO stays", x.count(7), 3);
        }
        // two who swap hear what was 1, 2, 3, 4 bars ago: the row has a period of twice that
        BorrowedBeat swap = Check.town("pb60f1h10;pb50f0h10");
        int[][] swaps = {{60, 50, 60, 50, 60, 50}, {60, 50, 50, 60, 60, 50}, {60, 50, 50, 50, 60, 60}, {60, 50, 50, 50, 50, 60}};
        for (int echo = 0; echo <= 3; echo++) {
            swap.set(2, echo);
            row("swap by ECHO " + echo, beats(swap, 0, 6), swaps[echo]);
        }
    }

    private void waiting() {
        says("if a bar is MARKED, all wait behind it for the last: all TIMES become the greatest");
        BorrowedBeat x = Check.town("pb60;pb50;pb40");
        x.set(1, 4);
        x.mark(0, true);
        row("ahead, marked first", times(x, 2, 0), 40, 100, 140, 180);
        row("behind, marked first", times(x, 2, 1), 60, 100, 140, 180);
        row("behind, the last one", times(x, 0, 1), 60, 120, 180, 240);
        row("behind, the middle one", times(x, 1, 1), 60, 110, 160, 210);
        x.mark(3, true);
        row("ahead, marked at the end", times(x, 2, 0), 40, 100, 140, 180);
        row("behind, marked at the end", times(x, 2, 1), 60, 100, 140, 240);
        x.mark(1, true);
        x.mark(2, true);
        row("ahead, all marked", times(x, 2, 0), 40, 100, 160, 220);
        row("behind, all marked", times(x, 2, 1), 60, 120, 180, 240);
        row("SPREADS", spreads(x), 20, 20, 20, 20);
        x.tell(2, 2, 50);
        row("for one who is LATE", times(x, 0, 1), 90, 180, 270, 360);
        row("a mark changes no BEATS", beats(x, 2, 4), 40, 40, 40, 40);
        x.mark(29, true);
        x.mark(4, true);
        row("behind the end", times(x, 0, 0), 60, 150, 240, 330);
        x.set(1, 6);
        due("in bar 4", x.time(0, 4, 1), 450);
        due("in bar 5", x.time(0, 5, 1), 510);
    }

    private void timeOfNone() {
        says("TIME of a PLAYER at a bar, ahead of waiting (what 0), behind it (1); its BEAT in that bar (2). NONE: no such ones");
        due("no TOWN", new BorrowedBeat().time(0, 0, 0), NONE);
        BorrowedBeat x = Check.town(PAIR);
        int[] far = {-1, 2, 9, 30, Integer.MAX_VALUE, Integer.MIN_VALUE};
        for (int n : far) {
            due("time of PLAYER " + n, x.time(n, 0, 0), NONE);
            due("time at bar " + n, x.time(0, n, 0), n == 2 ? 180 : NONE);
            due("what " + n, x.time(0, 0, n), n == 2 ? 60 : NONE);
        }
        due("what 3", x.time(0, 0, 3), NONE);
        due("the last PLAYER, bar, what", x.time(1, 8, 2), 59);
    }

    private void time() {
        says("TIME of a PLAYER at a bar: parts of all bars up to it");
        BorrowedBeat x = Check.town(PAIR);
        row("of PLAYER 0", times(x, 0, 0), 60, 120, 180, 240, 300, 360, 420, 480, 540);
        row("of PLAYER 1", times(x, 1, 0), 50, 105, 162, 220, 279, 338, 397, 456, 515);
        row("of PLAYER 1 behind waiting", times(x, 1, 1), 50, 105, 162, 220, 279, 338, 397, 456, 515);
        BorrowedBeat least = Check.town("pb1");
        due("the least", least.time(0, 0, 0), 1);
        BorrowedBeat most = fast("");
        most.tell(0, 2, 50);
        most.set(1, 30);
        due("the greatest", most.time(0, 29, 1), 7470);
    }

    private void spread() {
        says("SPREAD at a bar: the greatest TIME less the least (ahead of waiting).");
        BorrowedBeat x = Check.town(PAIR);
        row("SPREADS", spreads(x), 10, 15, 18, 20, 21, 22, 23, 24, 25);
        x.mark(3, true);
        row("SPREADS with a mark", spreads(x), 10, 15, 18, 20, 1, 2, 3, 4, 5);
        row("alone", spreads(Check.town("pb99")), 0, 0, 0, 0, 0, 0, 0, 0, 0);
        row("alike", spreads(Check.town("pb9;pb9;pb9")), 0, 0, 0, 0, 0, 0, 0, 0, 0);
        due("of six", Check.town("pb9;pb8;pb7;pb6;pb99;pb5").spread(0), 94);
        due("the first the greatest", Check.town("pb90;pb8;pb70").spread(0), 82);
        due("the first the least", Check.town("pb2;pb8;pb70").spread(0), 68);
        says("SPREAD. NONE: no TOWN, no such bar.");
        due("no TOWN", new BorrowedBeat().spread(0), NONE);
        int[] none = {-1, 9, 30, Integer.MAX_VALUE, Integer.MIN_VALUE};
        for (int bar : none) {
            due("spread(" + bar + ")", x.spread(bar), NONE);
            due("last(" + bar + ")", x.last(bar), NONE);
        }
        due("the greatest of all", fast(";pb1").spread(8), 9 * 198);
    }

    private void worst() {
        says("WORST: the greatest SPREAD; its bar (of several the first).");
        BorrowedBeat x = Check.town("pb60;pb50");
        due("the last", x.worst(0), 90);
        due("its bar", x.worst(1), 8);
        x.mark(2, true);
        x.mark(5, true);
        due("the first of three", x.worst(0), 30);
        due("its bar", x.worst(1), 2);
        BorrowedBeat still = Check.town("p;p");
        due("all 0", still.worst(0), 0);
        due("all 0, its bar", still.worst(1), 0);
        BorrowedBeat first = Check.town("pb60f1h10;pb50f0h10");
        due("ten in each second bar", first.worst(0), 10);
        due("the first of these", first.worst(1), 0);
        BorrowedBeat later = Check.town(PAIR);
        later.tell(1, 2, 3);
        row("7 9 9 8 6 4 2 0 2", spreads(later), 7, 9, 9, 8, 6, 4, 2, 0, 2);
        due("the greatest", later.worst(0), 9);
        due("the first of two", later.worst(1), 1);
        says("WORST (0), its bar (1). NONE: no TOWN, no such what.");
        due("no TOWN", new BorrowedBeat().worst(0), NONE);
        due("no TOWN, its bar", new BorrowedBeat().worst(1), NONE);
        due("worst(2)", x.worst(2), NONE);
        due("worst(-1)", x.worst(-1), NONE);
        x.set(1, 1);
        due("of one bar", x.worst(0), 10);
        due("of one bar, its bar", x.worst(1), 0);
    }

    private void parting() {
        says("PARTING: the first bar with a SPREAD above LIMIT (0 .. 999; 20 at first).");
        BorrowedBeat x = Check.town(PAIR);
        due("at first", x.count(8), 20);
        int[] spreads = {10, 15, 18, 20, 21, 22, 23, 24, 25};
        for (int bar = 0; bar < 9; bar++) {
            x.set(3, spreads[bar]);
            due("one as great as LIMIT", x.parts(), bar < 8 ? bar + 1 : NONE);
            x.set(3, spreads[bar] - 1);
            due("one above LIMIT", x.parts(), bar);
        }
        x.set(3, 0);
        due("LIMIT 0", x.parts(), 0);
        due("LIMIT 0, alike", limited("p;p", 0).parts(), NONE);
        due("LIMIT 0, alone", limited("p", 0).parts(), NONE);
        due("LIMIT 0, one apart", limited("pb60;pb61", 0).parts(), 0);
        says("PARTING. NONE: none, no TOWN.");
        due("no TOWN", new BorrowedBeat().parts(), NONE);
        BorrowedBeat none = new BorrowedBeat();
        none.set(3, 0);
        due("no TOWN, LIMIT 0", none.parts(), NONE);
    }

    private static BorrowedBeat limited(String town, int limit) {
        BorrowedBeat x = Check.town(town);
        x.set(3, limit);
        return x;
    }

    private void greatLimit() {
        says("LIMIT (0 .. 999; 20 at first)");
        BorrowedBeat x = Check.town("pb60;pb23");
        x.set(1, 30);
        int[] none = {-1, 1000, Integer.MAX_VALUE, Integer.MIN_VALUE};
        for (int limit : none) {
            due("LIMIT " + limit, x.set(3, limit), false);
            due("LIMIT stays", x.count(8), 20);
        }
        due("LIMIT 999", x.set(3, 999), true);
        due("999 at bar 26", x.spread(26), 999);
        due("above it at bar 27", x.parts(), 27);
        due("LIMIT 998", x.set(3, 998), true);
        due("above it at bar 26", x.parts(), 26);
        due("LIMIT 0", x.set(3, 0), true);
        due("count(8)", x.count(8), 0);
        says("BARS (1), ECHO (2), LIMIT (3). False: no such ones, out of bounds.");
        int[][] others = {{4, 0}, {-1, 0}, {4, 1}, {Integer.MAX_VALUE, 1}, {Integer.MIN_VALUE, 1}};
        for (int[] other : others) {
            due("set(" + other[0] + ", " + other[1] + ")", x.set(other[0], other[1]), false);
        }
        BorrowedBeat townless = new BorrowedBeat();
        due("without a TOWN: BARS", townless.set(1, 30), true);
        due("without a TOWN: ECHO", townless.set(2, 3), true);
        due("without a TOWN: LIMIT", townless.set(3, 999), true);
    }

    private void last() {
        says("LAST at a bar: the PLAYER with the greatest TIME (ahead of waiting; of several the lowest).");
        due("alone", Check.town("p").last(0), 0);
        due("all alike", Check.town("p;p;p;p;p;p").last(8), 0);
        due("two alike", Check.town("pb10;pb30;pb30").last(0), 1);
        due("the first and another", Check.town("pb30;pb10;pb30").last(0), 0);
        due("the sixth", Check.town("p;p;p;p;p;pb61").last(0), 5);
        BorrowedBeat x = Check.town("pb50;pb60;pb60");
        for (int bar = 0; bar < 9; bar++) {
            x.mark(bar, true);
            due("at a MARKED bar", x.last(bar), 1);
        }
        BorrowedBeat six = Check.town("pb9;pb9;pb9;pb9;pb9;pb99");
        Check.give(six, 0, "pb60;pb50");
        due("one of these", six.last(0), 0);
        says("LAST at a bar. NONE: no TOWN, no such bar.");
        due("no TOWN", new BorrowedBeat().last(0), NONE);
    }

    private void settled(BorrowedBeat x, int i, int length) {
        due("i", x.settle(0), i);
        due("j less i", x.settle(1), length);
    }

    private void settle() {
        says("SETTLE: i (0), j less i (1).");
        settled(Check.town("p"), 0, 1);
        settled(Check.town("pb1;pb99;pb50"), 0, 1);
        says("whose BEATS, and those of the three bars ahead (bar 0 for those that are not), are as at some bar i below it: i, j less i");
        // 50 60 60 60 60: bar 4 is the first with four of 60
        settled(Check.town("pb60;pb50f0h10"), 4, 1);
        // 60 50 60 50 ..: bar 0 has itself ahead, so bar 5 is as bar 3
        settled(Check.town("pb60f1h10;pb50f0h10"), 3, 2);
        // 10 20 30 10 20 30: bar 6 is as bar 3
        settled(Check.town("pb10f1h10;pb20f2h10;pb30f0h10"), 3, 3);
        says("(as if it had no end, ECHO as it is)");
        BorrowedBeat x = Check.town(PAIR);
        for (int bars = 1; bars <= 30; bars += 29) {
            x.set(1, bars);
            settled(x, 7, 1);
        }
        // 60 50 50 60 60 50 50 60 60 50: bar 6 is as bar 2
        BorrowedBeat swap = Check.town("pb60f1h10;pb50f0h10");
        swap.set(2, 1);
        settled(swap, 2, 4);
        // by ECHO 2: 60 50 50 50 60 60 60 50; bar 7 has 60 60 60 ahead of its 50, so has bar 1
        swap.set(2, 2);
        settled(swap, 1, 6);
        // by ECHO 3: 60 50 50 50 50 60 60 60 60: bar 8 has nothing but 60, so has bar 0
        swap.set(2, 3);
        settled(swap, 0, 8);
        x.tell(1, 2, 9);
        x.mark(0, true);
        settled(x, 7, 1);
    }

    private void settleLate() {
        says("the least bar j (200 at most)");
        BorrowedBeat just = Check.town("pb18f1h10;pb75f2h10;pb65f0h8");
        just.set(2, 2);
        settled(just, 199, 1);
        BorrowedBeat over = Check.town("pb59f1h10;pb54f2h7;pb12f3h6;pb92f0h10");
        over.set(2, 3);
        settled(over, NONE, NONE);
        says("NONE: not within 200, no TOWN, no such what.");
        settled(new BorrowedBeat(), NONE, NONE);
        due("settle(2)", just.settle(2), NONE);
        due("settle(-1)", just.settle(-1), NONE);
        // asked when another TOWN was asked ahead
        BorrowedBeat x = Check.town("pb1;pb2;pb3;pb4;pb5;pb6f0h1");
        x.settle(0);
        Check.give(x, 0, "p;p");
        settled(x, 0, 1);
    }

    private void ring() {
        says("if one goes on from a PLAYER to whom it FOLLOWS (0: one comes to an end)");
        BorrowedBeat x = Check.town("p;pf0;pf1;pf2;pf3;pf4");
        for (int p = 0; p < 6; p++) {
            due("RING from " + p, x.ring(p), 0);
            due("HEAD from " + p, x.head(p), 0);
        }
        x.tell(0, 0, 5);
        for (int p = 0; p < 6; p++) {
            due("RING of six from " + p, x.ring(p), 63);
            due("HEAD, a RING of six, from " + p, x.head(p), NONE);
        }
        x.tell(0, 0, 1);
        for (int p = 0; p < 6; p++) {
            due("RING of two from " + p, x.ring(p), 3);
        }
        x.tell(4, 0, 5);
        int[] rings = {3, 3, 3, 3, 48, 48};
        for (int p = 0; p < 6; p++) {
            due("one RING of two from " + p, x.ring(p), rings[p]);
            due("HEAD, a RING ahead, from " + p, x.head(p), NONE);
        }
        due("alone", Check.town("p").ring(0), 0);
        says("RING, as bits. NONE: no such PLAYER.");
        int[] none = {6, -1, 7, Integer.MAX_VALUE, Integer.MIN_VALUE};
        for (int p : none) {
            due("ring(" + p + ")", x.ring(p), NONE);
            due("head(" + p + ")", x.head(p), NONE);
        }
        due("no TOWN", new BorrowedBeat().ring(0), NONE);
    }

    private void head() {
        says("HEAD: the one at that end (NONE: a RING).");
        BorrowedBeat x = Check.town("pf5;pf0;pf1;pf2;pf3;p");
        int[] ways = {5, 5, 5, 5, 5, 5};
        for (int p = 0; p < 6; p++) {
            due("HEAD from " + p, x.head(p), ways[p]);
        }
        due("itself", Check.town("p").head(0), 0);
        due("itself, of two", Check.town("p;p").head(1), 1);
        BorrowedBeat mixed = Check.town("pf1;pf0;pf0;p;pf3");
        int[] heads = {NONE, NONE, NONE, 3, 3};
        int[] rings = {3, 3, 3, 0, 0};
        for (int p = 0; p < 5; p++) {
            due("HEAD from " + p, mixed.head(p), heads[p]);
            due("RING from " + p, mixed.ring(p), rings[p]);
        }
        says("HEAD. NONE: a RING, no such PLAYER.");
        due("no TOWN", new BorrowedBeat().head(0), NONE);
        due("behind the last", mixed.head(5), NONE);
        due("below the first", mixed.head(-1), NONE);
        due("a RING", mixed.head(0), NONE);
    }

    private void place() {
        says("PLACE at a bar: the i-th PLAYER by TIME (ahead of waiting; the least first, of several the lower).");
        BorrowedBeat x = Check.town("pb40;pb20;pb30;pb20;pb40;pb10");
        int[] order = {5, 1, 3, 2, 0, 4};
        for (int mark = 0; mark < 2; mark++) {
            for (int i = 0; i < 6; i++) {
                due("place(0, " + i + ")", x.place(0, i), order[i]);
            }
            x.mark(0, true);
        }
        BorrowedBeat same = Check.town("p;p;p");
        for (int i = 0; i < 3; i++) {
            due("alike", same.place(8, i), i);
        }
        says("PLACE. NONE: no such ones.");
        due("no TOWN", new BorrowedBeat().place(0, 0), NONE);
        int[] none = {-1, 6, 9, 30, Integer.MAX_VALUE, Integer.MIN_VALUE};
        for (int n : none) {
            due("place(0, " + n + ")", x.place(0, n), NONE);
            due("place(" + n + ", 0)", x.place(n, 0), n == 6 ? 5 : NONE);
        }
        due("place(0, 3) of three", same.place(0, 3), NONE);
    }

    private void overtakes() {
        says("in how many bars from 1 on the one is ahead of the other by TIME (less), that was not in the bar ahead, or the other way round");
        BorrowedBeat x = Check.town(PAIR);
        due("ahead from bar 0 on", x.overtakes(1, 0), 0);
        due("behind from bar 0 on", x.overtakes(0, 1), 0);
        x.tell(1, 2, 3);
        // less till bar 6, alike at 7, more at 8
        due("the other comes ahead", x.overtakes(1, 0), 1);
        due("the other way round", x.overtakes(0, 1), 1);
        x.set(1, 1);
        due("bar 0 alone", x.overtakes(0, 1), 0);
        // 10 40 against 11 22: ahead in bar 0, behind in bar 1
        BorrowedBeat at = Check.town("pb10f2h10;pb11;pb30");
        at.set(1, 2);
        due("in bar 1 at once", at.overtakes(0, 1), 1);
        says("NONE: no such ones, alike.");
        due("alike", x.overtakes(0, 0), NONE);
        due("alike, no such ones", x.overtakes(2, 2), NONE);
        int[] none = {2, -1, Integer.MAX_VALUE, Integer.MIN_VALUE};
        for (int n : none) {
            due("overtakes(0, " + n + ")", x.overtakes(0, n), NONE);
            due("overtakes(" + n + ", 0)", x.overtakes(n, 0), NONE);
        }
        due("no TOWN", new BorrowedBeat().overtakes(0, 1), NONE);
    }

    private void overtakesAlike() {
        says("(like TIMES: neither; ahead of waiting)");
        due("alike all the way", Check.town("p;p").overtakes(0, 1), 0);
        // 60 110 170 220 against 50 110 160 220: each second bar one comes ahead anew
        BorrowedBeat swap = Check.town("pb60f1h10;pb50f0h10");
        int[] counts = {0, 0, 1, 1, 2, 2, 3, 3, 4};
        for (int bars = 1; bars <= 9; bars++) {
            swap.set(1, bars);
            due("BARS " + bars, swap.overtakes(0, 1), counts[bars - 1]);
            due("BARS " + bars + ", the other", swap.overtakes(1, 0), counts[bars - 1]);
        }
        // in bar 1 110 against 120, as both go on from 60; without the mark 110 against 110
        BorrowedBeat x = Check.town("pb60f1h10;pb50f0h10");
        x.mark(0, true);
        x.set(1, 2);
        due("behind a mark", x.overtakes(0, 1), 1);
        x.set(1, 1);
        due("at a mark", x.overtakes(0, 1), 0);
        // alike in bar 0, then apart
        BorrowedBeat apart = Check.town("pb60;pb60f2h10;pb90");
        due("from alike ahead", apart.overtakes(0, 1), 1);
        due("from alike behind", apart.overtakes(1, 0), 1);
    }

    private void middle() {
        says("those of all others are together least apart (of several the lowest)");
        due("alone", Check.town("p").middle(), 0);
        due("of two", Check.town("pb20;pb10").middle(), 0);
        due("of three", Check.town("pb90;pb10;pb20").middle(), 2);
        due("of four", Check.town("pb90;pb10;pb20;pb30").middle(), 2);
        due("of six", Check.town("pb1;pb99;pb98;pb2;pb50;pb51").middle(), 4);
        due("all alike", Check.town("p;p;p;p;p;p").middle(), 0);
        says("from whose TIME in the end (ahead of waiting)");
        // 60 60 50 10, then 120 70 100 20: in the end another one is in the middle
        BorrowedBeat x = Check.town("pb60;pb60f3h10;pb50;pb10");
        int[] middles = {0, 1, 1, 1};
        for (int bars = 1; bars <= 4; bars++) {
            x.set(1, bars);
            due("of BARS " + bars, x.middle(), middles[bars - 1]);
        }
        x.mark(3, true);
        due("with a mark at the end", x.middle(), 1);
        says("MIDDLE. NONE: no TOWN.");
        due("no TOWN", new BorrowedBeat().middle(), NONE);
    }

    private void ends() {
        says("ENDS: the greatest TIME in the end, the least.");
        BorrowedBeat x = Check.town("pb30;pb20;pb10;pb40");
        for (int bars = 1; bars <= 30; bars++) {
            x.set(1, bars);
            due("the greatest of " + bars, x.ends(0), 40 * bars);
            due("the least of " + bars, x.ends(1), 10 * bars);
        }
        BorrowedBeat alone = Check.town("pb7");
        due("alone, the greatest", alone.ends(0), 63);
        due("alone, the least", alone.ends(1), 63);
        x.set(1, 2);
        x.mark(0, true);
        due("the greatest behind a mark", x.ends(0), 80);
        due("the least behind a mark", x.ends(1), 50);
        BorrowedBeat most = fast(";pb1");
        most.tell(0, 2, 50);
        most.set(1, 30);
        due("the greatest of all", most.ends(0), 249 * 30);
        due("the least of all", most.ends(1), 30);
        says("the greatest (0), the least (1). NONE: no TOWN, no such what.");
        due("no TOWN", new BorrowedBeat().ends(0), NONE);
        due("no TOWN, the least", new BorrowedBeat().ends(1), NONE);
        due("ends(2)", x.ends(2), NONE);
        due("ends(-1)", x.ends(-1), NONE);
    }

    private void stray() {
        says("STRAY: the bar (from 1) in which BEATS of one PLAYER first change by so much or more from a bar to the next (1 .. 99).");
        BorrowedBeat x = Check.town("pb90;pb60f2h10;pb60f0h5");
        // PLAYER 2: 60 75 82 86 88 89 89; PLAYER 1: 60 60 75 82 86 88 89
        int[][] dues = {{15, 1, 2}, {16, NONE, NONE}, {1, 1, 2}, {7, 1, 2}};
        for (int[] due : dues) {
            due("stray(2, " + due[0] + ")", x.stray(2, due[0]), due[1]);
            due("stray(1, " + due[0] + ")", x.stray(1, due[0]), due[2]);
        }
        BorrowedBeat grows = Check.town("pb50f1h10;pb51f2h10;pb53f3h10;pb56f4h10;pb60f5h10;pb65");
        for (int by = 1; by <= 5; by++) {
            due("up by " + by, grows.stray(0, by), by);
        }
        due("by 6", grows.stray(0, 6), NONE);
        BorrowedBeat falls = Check.town("pb65f1h10;pb64f2h10;pb62f3h10;pb59f4h10;pb55f5h10;pb50");
        for (int by = 1; by <= 5; by++) {
            due("down by " + by, falls.stray(0, by), by);
        }
        due("one who FOLLOWS nobody", x.stray(0, 1), NONE);
        says("STRAY. NONE: none, no such PLAYER, out of bounds.");
        BorrowedBeat far = fast(";pb1f0h10");
        int[] none = {0, -1, 100, Integer.MAX_VALUE, Integer.MIN_VALUE};
        for (int by : none) {
            due("stray(1, " + by + ")", far.stray(1, by), NONE);
        }
        due("by 99", far.stray(1, 99), 1);
        due("by 1", far.stray(1, 1), 1);
        due("no such PLAYER", far.stray(2, 1), NONE);
        due("no such PLAYER below", far.stray(-1, 1), NONE);
        due("no TOWN", new BorrowedBeat().stray(0, 1), NONE);
        far.set(1, 1);
        due("one bar alone", far.stray(1, 1), NONE);
    }

    private void told() {
        says("Whom a PLAYER FOLLOWS (what 0; NONE: nobody), HOW much (1), LATE (2). False: no such ones, itself, out of bounds.");
        BorrowedBeat x = Check.town("p;p;p");
        for (int p = 0; p < 3; p++) {
            for (int v = -3; v <= 7; v++) {
                boolean may = v >= NONE && v <= 2 && v != p;
                due("tell(" + p + ", 0, " + v + ")", x.tell(p, 0, v), may);
                due("again", x.tell(p, 0, v), may);
            }
            due("the last that might be", player(x, p, 4), p == 2 ? 1 : 2);
        }
        int[] none = {-1, 3, 6, Integer.MAX_VALUE, Integer.MIN_VALUE};
        for (int n : none) {
            due("tell(" + n + ", 1, 1)", x.tell(n, 1, 1), false);
            due("tell(0, " + n + ", 1)", x.tell(0, n, 1), n == 1);
            due("tell(0, 0, " + n + ")", x.tell(0, 0, n), n == NONE);
        }
        due("no TOWN", new BorrowedBeat().tell(0, 0, NONE), false);
        due("another is as it was", player(x, 1, 5), 5);
        says("0 BEAT, 1 BEAT at first, 2 DRIFT, 3 KIND, 4 whom it FOLLOWS (NONE), 5 HOW much, 6 LATE. NoSuchElementException: no such ones.");
        for (int n : none) {
            due("player(" + n + ", 0)", player(x, n, 0), THROWN);
        }
        int[] whats = {-1, 7, 8, Integer.MAX_VALUE, Integer.MIN_VALUE};
        for (int what : whats) {
            due("player(0, " + what + ")", player(x, 0, what), THROWN);
        }
        due("no TOWN", player(new BorrowedBeat(), 0, 0), THROWN);
        due("LATE of the last", player(x, 2, 6), 0);
    }

    private void marks() {
        says("A bar (0 .. 29) is MARKED, or not. False: no TOWN, no such bar, it is so.");
        due("no TOWN", new BorrowedBeat().mark(0, true), false);
        BorrowedBeat x = Check.town("p");
        for (int bar = 0; bar < 30; bar++) {
            due("not MARKED yet", x.mark(bar, false), false);
            due("mark(" + bar + ")", x.mark(bar, true), true);
            due("it is so", x.mark(bar, true), false);
            due("bits", x.count(9), (1 << (bar + 1)) - 1);
        }
        int[] none = {-1, 30, 31, 32, 33, 64, -32, Integer.MAX_VALUE, Integer.MIN_VALUE};
        for (int bar : none) {
            due("mark(" + bar + ", true)", x.mark(bar, true), false);
            due("mark(" + bar + ", false)", x.mark(bar, false), false);
        }
        for (int bar = 0; bar < 30; bar++) {
            due("no more", x.mark(bar, false), true);
            due("it is not so", x.mark(bar, false), false);
        }
        due("no bits", x.count(9), 0);
    }

    /** Nothing of a TOWN with more PLAYERS is left in one with fewer. */
    private void players() {
        says("how many PLAYERS");
        BorrowedBeat x = Check.town("pb60;pb60;pb1;pb99d9;pb1f0;pb99");
        x.tell(5, 2, 50);
        x.worst(0);
        Check.give(x, 0, "pb60;pb60");
        due("WORST", x.worst(0), 0);
        due("LAST", x.last(8), 0);
        due("PLACE 1", x.place(8, 1), 1);
        due("PLACE 2", x.place(8, 2), NONE);
        due("MIDDLE", x.middle(), 0);
        due("ENDS", x.ends(1), 540);
        due("RING", x.ring(1), 0);
        due("LEADER", x.leader(0, 0), NONE);
        due("FITS", x.fits(0), 64 | 2);
        due("ODDS", x.odds(0, 1), 3);
        due("PAID", x.paid(0), 1);
        due("GIFT", x.gift(1), 0);
        due("WEEK", x.week(0), 0);
        due("SETTLE", x.settle(0), 0);
        due("MARKS", x.marks(0), 0);
        due("none such", player(x, 2, 0), THROWN);
    }
}
