/** Sentences of the document about DAMP, DAYS, UNDO and IMAGES that name a boundary case, each by itself. */
public final class DayBoundsTest extends Asking {
    public static void main(String[] args) {
        DayBoundsTest t = new DayBoundsTest();
        t.newObject();
        t.whichLawHolds();
        t.heldDamp();
        t.lettersOfLaw();
        t.dampOfTheDayAhead();
        t.heldNumbers();
        t.division();
        t.order();
        t.worth();
        t.dampOfDays();
        t.hosts();
        t.kinds();
        t.heldBeats();
        t.undone();
        t.undoneAround();
        t.lastDay();
        t.image();
        t.back();
        t.check.close("DayBoundsTest");
    }

    /** The DAMP of DAY 0 by such a LAW. */
    private void worth(int due, String... laws) {
        for (String law : laws) {
            due("damp(0) by y:" + law, townWithLaw("p", "y:" + law).damp(0), due);
        }
    }

    /** Whether such a CONDITION holds on DAY 0. */
    private void holds(boolean due, String... conditions) {
        for (String condition : conditions) {
            worth(due ? 7 : 2, condition + "?7;y:2");
        }
    }

    private void newObject() {
        says("No TOWN.");
        BorrowedBeat x = new BorrowedBeat();
        due("PLAYERS", x.count(0), 0);
        says("0 PLAYERS, 1 the METRONOME's BEAT, 2 LAWS, 3 bytes of the TAPE, 4 the DAY, 5 the LAW that holds (NONE), 6 BARS");
        int[] counts = {0, 60, 0, 0, 0, NONE, 9, 0, 20, 0, 0, 0};
        for (int what = 0; what < counts.length; what++) {
            due("count(" + what + ")", x.count(what), counts[what]);
        }
        says("HIDDEN for others.");
        int[] others = {-1, 12, 13, Integer.MAX_VALUE, Integer.MIN_VALUE};
        for (int what : others) {
            due("count(" + what + ")", x.count(what), HIDDEN);
        }
        says("`NONE = -1`: None; refused.");
        due("NONE", BorrowedBeat.NONE, -1);
        says("`HIDDEN = -1000000`: Not told.");
        due("HIDDEN", BorrowedBeat.HIDDEN, -1000000);
    }

    private void whichLawHolds() {
        says("The LAW that holds (what 0; NONE: none)");
        BorrowedBeat x = new BorrowedBeat();
        due("no LAW 0", x.set(0, 0), false);
        due("none", x.set(0, NONE), true);
        Check.give(x, 1, "y:4");
        due("holds yet", x.count(5), NONE);
        due("LAW 1 of one", x.set(0, 1), false);
        due("LAW -2", x.set(0, -2), false);
        due("LAW 0", x.set(0, 0), true);
        due("LAW 0 again", x.set(0, 0), true);
        due("holds", x.count(5), 0);
        Check.give(x, 1, "y:5");
        due("a new LAW does not hold by itself", x.count(5), 0);
        due("LAW 1", x.set(0, 1), true);
        due("LAW 2 of two", x.set(0, 2), false);
        due("holds still", x.count(5), 1);
        due("MAX", x.set(0, Integer.MAX_VALUE), false);
        due("MIN", x.set(0, Integer.MIN_VALUE), false);
        Check.give(x, 0, "p");
        due("DAMP by LAW 1", x.damp(0), 5);
        x.set(0, NONE);
        due("DAMP by none", x.damp(0), 0);
        due("none holds", x.count(5), NONE);
    }

    private void heldDamp() {
        says("held within 0 .. 9; letters");
        dampsIn("p", "y:d-3", 0, 0, 0, 0, 1, 2, 3, 4, 5, 6, 7, 8, 9, 9, 9);
        worth(0, "0", "0-1", "0-9999*9999", "1-2");
        worth(9, "9", "10", "9999", "9999*9999");
        worth(1, "1");
        worth(8, "8");
    }

    private void lettersOfLaw() {
        says("d the DAY, w the DAY modulo 7, m the METRONOME's BEAT, n how many PLAYERS");
        dampsIn("p", "y:d", 0, 1, 2);
        BorrowedBeat last = townWithLaw("p", "y:d=999?7;y:2");
        due("DAY 998", last.damp(998), 2);
        due("DAY 999", last.damp(999), 7);
        dampsIn("p", "y:w", 0, 1, 2, 3, 4, 5, 6, 0, 1, 2, 3, 4, 5, 6, 0);
        due("DAY 999 modulo 7", townWithLaw("p", "y:w").damp(999), 5);
        due("DAY 994 modulo 7", townWithLaw("p", "y:w").damp(994), 0);
        due("60 without an m", townWithLaw("p", "y:m-55").damp(0), 5);
        due("60 without a b", townWithLaw("p;m", "y:m-55").damp(0), 5);
        due("BEAT 1", townWithLaw("p;mb1", "y:m+1").damp(0), 2);
        due("BEAT 99", townWithLaw("p;mb99", "y:m-91").damp(0), 8);
        String town = "p";
        for (int n = 1; n <= 6; n++) {
            due("PLAYERS", townWithLaw(town, "y:n").damp(0), n);
            town += ";p";
        }
    }

    private void dampOfTheDayAhead() {
        says("o DAMP of the DAY ahead (0 for DAY 0; asked by the same LAW from DAY 0 on)");
        dampsIn("p", "y:o", 0, 0, 0);
        dampsIn("p", "y:o+1", 1, 2, 3, 4, 5, 6, 7, 8, 9, 9);
        dampsIn("p", "y:o=0?1;y:o*2", 1, 2, 4, 8, 9, 9);
        dampsIn("p", "y:20-o*3", 9, 0, 9, 0);
        dampsIn("p", "y:o-1=0-1?3;y:o-1", 3, 2, 1, 0, 3, 2);
        dampsIn("p;p;mb3", "y:o+n-m+d", 0, 0, 1, 3, 6, 9, 9);
        BorrowedBeat x = townWithLaw("pd1k2", "y:9");
        Check.give(x, 1, "y:o+1");
        letDaysGoBy(x, 2);
        x.set(0, 1);
        due("by the same LAW for DAYS that went by otherwise", x.damp(2), 3);
        due("DAY 0 by it", x.damp(0), 1);
        x.day(NONE);
        due("BEAT behind 9, 9, 3", player(x, 0, 0), 81);
        due("far ahead", x.damp(999), 9);
        due("DAY 999 of 0 1 0 1", townWithLaw("p", "y:1-o").damp(999), 0);
        due("DAY 998 of 0 1 0 1", townWithLaw("p", "y:1-o").damp(998), 1);
    }

    private void heldNumbers() {
        says("Behind each sign numbers are within -1,000,000 .. 1,000,000");
        holds(false, "9999*100+99=9999*100+100", "9999*100+98=9999*100+99", "1000*1000=9999*100+99", "999*1000=1000*1000");
        holds(true, "9999*100+100=9999*100+101", "1000*1000=1001*1000", "1000*1000=9999*9999", "9999*100+100=1000*1000");
        holds(false, "0-9999*100-99=0-9999*100-100", "0-1000*1000=0-9999*100-99", "0-1000*1000<0-1000*1000");
        holds(true, "0-9999*100-100=0-9999*100-101", "[0-1000]*1000=[0-1001]*1000", "[0-9999]*9999=0-1000*1000");
        holds(true, "[0-9999]*[0-9999]=1000*1000", "1000*[0-1000]=0-9999*100-100");
        // held behind each sign, not in the end alone
        worth(5, "9999*9999-9999*100-95", "9999*100+9999-9999*100-95", "[9999*100+9999]-9999*100-95");
        worth(5, "0-9999*9999+9999*100+105", "0-9999*100-9999+9999*100+105", "9999*9999/1000/200");
        worth(7, "9999*9999/1000-993", "9999*9999*9999/1000-993", "9999*9999*[0-9999]/1000+1007");
        worth(9, "9999*9999*9999*9999", "1000*1000*1000*1000*1000");
        worth(0, "9999*9999*9999*[0-9999]", "1000*1000*[0-1000]*1000*1000", "[0-9999]*9999");
    }

    private void division() {
        says("/ cuts towards 0, by 0 gives 0");
        worth(3, "7/2", "[0-7]/[0-2]", "6/[0-7]+3", "3+[0-6]/7", "[0-7]/2+6", "7/[0-2]+6", "9/3");
        worth(4, "8/2", "9/2", "[0-1]/2+4", "1/[0-2]+4", "0/5+4", "5/0+4", "[0-5]/0+4", "0/0+4", "4+9/[5-5]", "4+9999*9999/d");
        worth(2, "5/0*3+2", "2+1/2", "2-1/2", "[5/0]+2", "1000*1000/1000/500", "2/1");
        dampsIn("p", "y:9/d", 0, 9, 4, 3, 2, 1, 1, 1, 1, 1, 0);
        dampsIn("p", "y:9+[d-3]*5/2", 1 + 1, 4, 7, 9, 9);
    }

    private void order() {
        says("SUM: TERMS with + or - between; TERM: ATOMS with * or / between");
        worth(4, "9-3-2", "9-3+1-3", "8/2/1", "2*6/3", "9/2*1", "2+6/3", "9-2*3+1", "1+1*3", "8-2*2", "9-[3+2]", "2*[1+1]");
        worth(6, "9-[5-2]", "[1+2]*2", "3/2*6", "6*[3/2]", "8-[1+1]*1", "[[[[[[6]]]]]]", "7-3/2", "9-9/3");
        says("CONDITION: TRUTHS with | between; TRUTH: UNITS with & between");
        String t = "1=1";
        String f = "1=2";
        holds(true, t, t + "|" + f, f + "|" + t, t + "|" + t, t + "&" + t, t + "|" + f + "&" + f, f + "&" + f + "|" + t, f + "&" + t + "|" + t);
        holds(false, f, f + "|" + f, t + "&" + f, f + "&" + t, f + "&" + f, f + "|" + t + "&" + f, "(" + t + "|" + t + ")&" + f);
        holds(true, "!" + f, "!!" + t, "!" + f + "&" + t, "!" + t + "|" + t, "!(" + t + "&" + f + ")", t + "&!" + f, "(" + t + ")");
        holds(false, "!" + t, "!!!" + t, "!" + f + "&" + f, "!(" + f + "|" + t + ")", t + "&!" + t, "!(" + t + ")", "(" + f + ")");
        holds(true, f + "|" + f + "|" + f + "|" + t, t + "&" + t + "&" + t + "&" + t, f + "|" + t + "&" + t + "|" + f, "!!!!!!" + t);
        holds(false, f + "|" + f + "|" + f + "|" + f, t + "&" + t + "&" + t + "&" + f, f + "|" + t + "&" + f + "|" + f, "!!!!!" + t);
        says("or SUM, one of = < >, SUM.");
        holds(true, "1=1", "1<2", "2>1", "0-1<0", "0>0-1", "1+1=2", "2=1+1", "[0-1]*5<4", "4>[0-1]*5");
        holds(false, "1=2", "1<1", "1>1", "2<1", "1>2", "0<0-1", "0-1>0", "0-1=1");
        String[] so = {"1=1", "1<2", "2>1"};
        String[] notSo = {"1=2", "1<1", "1>1"};
        for (String right : so) {
            for (int i = 0; i < 3; i++) {
                holds(true, so[i] + "&" + right, so[i] + "|" + right, notSo[i] + "|" + right, "!" + notSo[i] + "&" + right);
                holds(true, so[i] + "&(" + right + ")", notSo[i] + "|(" + right + "&" + so[i] + ")", so[i] + "&!(" + notSo[i] + ")");
                holds(false, notSo[i] + "&(" + right + ")", so[i] + "&(" + right + "&" + notSo[i] + ")", "(" + so[i] + ")&!(" + right + ")");
                holds(true, "(" + so[i] + ")&(" + right + "|" + notSo[i] + ")&" + right, so[i] + "&(" + notSo[i] + "|(" + right + "))");
                holds(false, notSo[i] + "&" + right, "!" + so[i] + "&" + right, notSo[i] + "|!" + right, "!(" + so[i] + "|" + right + ")");
            }
        }
    }

    private void worth() {
        says("WORTH: the SUM of the first CLAUSE whose CONDITION holds (or has none), 0 without.");
        dampsIn("p", "y:d>2?3", 0, 0, 0, 3, 3);
        dampsIn("p", "y:d>3?1;y:d>1?2;y:d=0?5", 5, 0, 2, 2, 1, 1);
        dampsIn("p", "y:d=1?4;y:6", 6, 4, 6);
        dampsIn("p", "y:3;y:5", 3, 3);
        dampsIn("p", "y:3;y:d=1?5", 3, 3);
        dampsIn("p", "y:d=0?3;y:d<2?5;y:d<2?6", 3, 5, 0);
        worth(0, "1=2?5", "1=2?5;y:1=2?6", "0;y:5");
        dampsIn("p", "y:o>0?0;y:o=0?d+1", 1, 0, 3, 0, 5, 0);
    }

    private void dampOfDays() {
        says("DAMP of a DAY. NONE: no TOWN, out of bounds (0 .. 999).");
        due("no TOWN", new BorrowedBeat().damp(0), NONE);
        BorrowedBeat x = townWithLaw("p", "y:5");
        int[] none = {-1, 1000, 1001, Integer.MAX_VALUE, Integer.MIN_VALUE};
        BorrowedBeat back = townWithLaw("p", "y:5-o");
        for (int day : none) {
            due("damp(" + day + ")", x.damp(day), NONE);
            due("damp(" + day + ") with an o", back.damp(day), NONE);
        }
        due("damp(0)", x.damp(0), 5);
        due("damp(999)", x.damp(999), 5);
        due("damp(999) with an o", back.damp(999), 0);
        due("damp(0) with an o", back.damp(0), 5);
        due("no DAY went by", x.count(4), 0);
        BorrowedBeat y = new BorrowedBeat();
        Check.give(y, 1, "y:5");
        y.set(0, 0);
        due("no TOWN, but a LAW", y.damp(0), NONE);
        Check.give(y, 0, "p");
        due("then a TOWN", y.damp(0), 5);
    }

    private void hosts() {
        says("DAYS are numbered from 0.");
        BorrowedBeat x = Check.town("pb10d1;pb20d2;mb50");
        due("at first", x.count(4), 0);
        says("A DAY goes by with the METRONOME at a PLAYER, or at nobody: its BEAT becomes the METRONOME's; BEATS of all others change");
        says("A DAY goes by with the METRONOME at a PLAYER (NONE: nobody): which DAY is next.");
        due("at nobody", x.day(NONE), 1);
        row("BEATS", beatsNow(x, 2), 11, 22);
        due("at PLAYER 0", x.day(0), 2);
        row("BEATS", beatsNow(x, 2), 50, 24);
        due("at PLAYER 1", x.day(1), 3);
        row("BEATS", beatsNow(x, 2), 51, 50);
        due("BEAT at first", player(x, 0, 1), 10);
        says("NONE: no TOWN, no such PLAYER, behind DAY 999.");
        due("no TOWN", new BorrowedBeat().day(NONE), NONE);
        due("no TOWN, at PLAYER 0", new BorrowedBeat().day(0), NONE);
        int[] none = {2, -2, 6, Integer.MAX_VALUE, Integer.MIN_VALUE};
        for (int player : none) {
            due("day(" + player + ")", x.day(player), NONE);
        }
        due("DAY", x.count(4), 3);
        due("to undo", x.count(11), 3);
        row("BEATS", beatsNow(x, 2), 51, 50);
        due("the last of six", Check.town("p;p;p;p;p;p").day(5), 1);
        due("behind the last of five", Check.town("p;p;p;p;p").day(5), NONE);
    }

    private void kinds() {
        says("0 DRIFT more, 1 DRIFT less, 2 DRIFT times DAMP more, 3 DRIFT times DAMP less");
        String four = "pd4;pd4k1;pd4k2;pd4k3";
        BorrowedBeat dry = Check.town(four);
        dry.day(NONE);
        row("dry", beatsNow(dry, 4), 64, 56, 60, 60);
        BorrowedBeat wet = townWithLaw(four, "y:9");
        wet.day(NONE);
        row("wet", beatsNow(wet, 4), 64, 56, 96, 24);
        BorrowedBeat byDays = townWithLaw(four, "y:d=0?1;y:d=1?0;y:2");
        byDays.day(NONE);
        row("DAY 0", beatsNow(byDays, 4), 64, 56, 64, 56);
        byDays.day(NONE);
        row("DAY 1", beatsNow(byDays, 4), 68, 52, 64, 56);
        byDays.day(NONE);
        row("DAY 2", beatsNow(byDays, 4), 72, 48, 72, 48);
        BorrowedBeat none = townWithLaw("pd0;pd0k1;pd0k2;pd0k3", "y:9");
        none.day(NONE);
        row("no DRIFT", beatsNow(none, 4), 60, 60, 60, 60);
    }

    private void heldBeats() {
        says("held within 1 .. 199.");
        BorrowedBeat up = Check.town("pb99d9;pb98d1");
        letDaysGoBy(up, 11);
        due("198", player(up, 0, 0), 198);
        letDaysGoBy(up, 1);
        due("199 for 207", player(up, 0, 0), 199);
        letDaysGoBy(up, 88);
        row("199 stays, 198 by one", beatsNow(up, 2), 199, 198);
        letDaysGoBy(up, 1);
        due("199", player(up, 1, 0), 199);
        letDaysGoBy(up, 1);
        due("199 for 200", player(up, 1, 0), 199);
        BorrowedBeat down = Check.town("pb10d9k1;pb3d1k1;pb10d9k1");
        letDaysGoBy(down, 1);
        row("1", beatsNow(down, 3), 1, 2, 1);
        letDaysGoBy(down, 1);
        row("1 for -8, 1", beatsNow(down, 3), 1, 1, 1);
        letDaysGoBy(down, 1);
        row("1 for 0", beatsNow(down, 3), 1, 1, 1);
        BorrowedBeat wet = townWithLaw("pb37d9k2;pb99d9k2;pb82d9k3;pb81d9k3", "y:9");
        letDaysGoBy(wet, 1);
        row("by DAMP", beatsNow(wet, 4), 118, 180, 1, 1);
        letDaysGoBy(wet, 1);
        row("held by DAMP", beatsNow(wet, 4), 199, 199, 1, 1);
        BorrowedBeat again = townWithLaw("pb99d9k2;mb1", "y:9");
        letDaysGoBy(again, 3);
        again.day(0);
        letDaysGoBy(again, 1);
        due("from the METRONOME's on", player(again, 0, 0), 82);
    }

    private void undone() {
        says("The latest DAYS (60 at most) can be UNDONE.");
        int[] counts = {0, 1, 59, 60, 61, 119, 120, 121, 130};
        for (int days : counts) {
            BorrowedBeat x = Check.town("pb10d1;pb99d1k1");
            letDaysGoBy(x, days);
            int most = Math.min(days, 60);
            due("to undo behind " + days, x.count(11), most);
            for (int i = 1; i <= most; i++) {
                due("undo " + i + " behind " + days, x.undo(), days - i);
                row("BEATS", beatsNow(x, 2), 10 + days - i, Math.max(1, 99 - days + i));
                due("left", x.count(11), most - i);
            }
            due("one more behind " + days, x.undo(), NONE);
            due("DAY", x.count(4), days - most);
            due("BEAT", player(x, 0, 0), 10 + days - most);
        }
        says("The latest DAY is UNDONE: which is next. NONE: none.");
        due("no TOWN", new BorrowedBeat().undo(), NONE);
        BorrowedBeat held = Check.town("pb98d9;pb2d9k1");
        letDaysGoBy(held, 12);
        row("held", beatsNow(held, 2), 199, 1);
        for (int i = 0; i < 11; i++) {
            held.undo();
        }
        row("what was held comes back", beatsNow(held, 2), 107, 1);
        held.undo();
        row("all comes back", beatsNow(held, 2), 98, 2);
    }

    /** Undone and gone by again and again, over the end of what is kept. */
    private void undoneAround() {
        says("The latest DAYS (60 at most) can be UNDONE.");
        BorrowedBeat x = Check.town("pb1d1;p");
        letDaysGoBy(x, 70);
        for (int i = 0; i < 40; i++) {
            x.undo();
        }
        due("20 left", x.count(11), 20);
        letDaysGoBy(x, 30);
        due("50 left", x.count(11), 50);
        letDaysGoBy(x, 20);
        due("60 left", x.count(11), 60);
        due("DAY", x.count(4), 80);
        for (int day = 79; day >= 20; day--) {
            due("undone " + day, x.undo(), day);
            due("BEAT", player(x, 0, 0), 1 + day);
        }
        due("no more", x.undo(), NONE);
        says("By hand FOLLOWS, HOW much, LATE, MARKS, BARS, ECHO, LIMIT are told.");
        BorrowedBeat y = Check.town("pd1;p");
        y.day(NONE);
        y.tell(0, 0, 1);
        y.tell(0, 1, 9);
        y.tell(0, 2, 8);
        y.mark(3, true);
        y.roll(0, 0, 7);
        y.set(1, 5);
        y.undo();
        int[] due = {60, 60, 1, 0, 1, 9, 8};
        for (int what = 0; what < due.length; what++) {
            due("what is told stays: player(0, " + what + ")", player(y, 0, what), due[what]);
        }
        due("MARKS stay", y.count(9), 8);
        due("ROLL stays", y.count(10), 1);
        due("BARS stay", y.count(6), 5);
    }

    /** More calls than are promised: else DAY 999 can't be come to. */
    private void lastDay() {
        says("NONE: no TOWN, no such PLAYER, behind DAY 999.");
        BorrowedBeat x = townWithLaw("pb60;pb50;mb50", "y:w");
        letDaysGoBy(x, 994);
        says("NONE: no TOWN, no such what, not six DAYS more.");
        due("six DAYS more: the row", x.week(0), 0);
        due("six DAYS more: how much", x.week(1), 0);
        x.day(NONE);
        due("DAY", x.count(4), 995);
        due("five more: the row", x.week(0), NONE);
        due("five more: how much", x.week(1), NONE);
        x.undo();
        due("six DAYS more again", x.week(0), 0);
        letDaysGoBy(x, 5);
        due("DAY", x.count(4), 999);
        says("NONE: no TOWN, no such what, behind DAY 999.");
        due("for DAY 999: to whom", x.gift(0), 0);
        due("for DAY 999: how much", x.gift(1), 0);
        says("NONE: no TOWN, no such PLAYER, behind DAY 999.");
        due("DAY 999 goes by", x.day(1), 1000);
        due("no more", x.day(1), NONE);
        due("no more at nobody", x.day(NONE), NONE);
        due("DAY", x.count(4), 1000);
        due("to undo", x.count(11), 60);
        says("NONE: no TOWN, no such what, behind DAY 999.");
        due("behind DAY 999: to whom", x.gift(0), NONE);
        due("behind DAY 999: how much", x.gift(1), NONE);
        due("an IMAGE", x.image(), 1000);
        due("undone", x.undo(), 999);
        due("to whom then", x.gift(0), 0);
        due("BACK", x.back(), 1000);
        due("no more behind BACK", x.day(0), NONE);
    }

    private void image() {
        says("An IMAGE (instead of the one ahead): the DAY. NONE: no TOWN.");
        BorrowedBeat x = new BorrowedBeat();
        due("no TOWN", x.image(), NONE);
        due("no IMAGE by that", x.back(), NONE);
        Check.give(x, 0, "pb10d1;mb70");
        due("none of this TOWN", x.back(), NONE);
        due("DAY 0", x.image(), 0);
        letDaysGoBy(x, 2);
        due("back to DAY 0", x.back(), 0);
        letDaysGoBy(x, 3);
        due("instead of that", x.image(), 3);
        letDaysGoBy(x, 1);
        due("back to DAY 3", x.back(), 3);
        due("its BEAT", player(x, 0, 0), 13);
        x.day(0);
        due("an IMAGE again", x.image(), 4);
        due("back at once", x.back(), 4);
        due("BEAT of DAY 4", player(x, 0, 0), 70);
        x.undo();
        due("DAYS stay undone", x.count(4), 4);
        due("an IMAGE keeps what can be undone", imageAndUndo(), 1);
    }

    private static int imageAndUndo() {
        BorrowedBeat x = Check.town("p");
        letDaysGoBy(x, 2);
        x.image();
        return x.undo();
    }

    private void back() {
        says("An IMAGE keeps BEATS, the DAY; BACK: they are so again (no DAY can be UNDONE then).");
        BorrowedBeat x = townWithLaw("pb10d1;pb20d1k2;mb70", "y:d+1");
        x.day(NONE);
        x.image();
        letDaysGoBy(x, 4);
        x.undo();
        x.tell(0, 2, 6);
        x.tell(1, 0, 0);
        x.mark(2, true);
        due("to undo", x.count(11), 4);
        due("back", x.back(), 1);
        row("BEATS", beatsNow(x, 2), 11, 21);
        due("DAY", x.count(4), 1);
        due("nothing to undo", x.count(11), 0);
        due("no DAY undone", x.undo(), NONE);
        due("LATE stays", player(x, 0, 6), 6);
        due("FOLLOWS stays", player(x, 1, 4), 0);
        due("MARKS stay", x.count(9), 4);
        x.day(NONE);
        row("DAMP of DAY 1", beatsNow(x, 2), 12, 23);
        due("one to undo", x.count(11), 1);
        due("undone", x.undo(), 1);
        row("BEATS", beatsNow(x, 2), 11, 21);
        due("no DAY before BACK", x.undo(), NONE);
        BorrowedBeat ahead = Check.town("pb10d1");
        letDaysGoBy(ahead, 5);
        ahead.image();
        for (int i = 0; i < 5; i++) {
            ahead.undo();
        }
        due("to a DAY to come", ahead.back(), 5);
        due("its BEAT", player(ahead, 0, 0), 15);
        due("nothing to undo there", ahead.undo(), NONE);
        letDaysGoBy(ahead, 65);
        due("60 to undo", ahead.count(11), 60);
        due("back with 60", ahead.back(), 5);
        due("none to undo", ahead.count(11), 0);
        says("the DAY. NONE: no IMAGE of this TOWN.");
        Check.give(ahead, 0, "pb10d1");
        due("of another TOWN", ahead.back(), NONE);
        ahead.image();
        due("of this one", ahead.back(), 0);
    }
}
