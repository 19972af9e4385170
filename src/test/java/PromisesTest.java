/** Each promise by itself, with answers worked out by hand from the document. */
public final class PromisesTest extends Asking {
    /** TIMES of PLAYER 1: 50 105 162 220 279 338 397 456 515; of PLAYER 0: 60 by 60 up to 540. */
    private static final String PAIR = "pb60;pb50f0h5;mb55";

    public static void main(String[] args) {
        PromisesTest t = new PromisesTest();
        t.newObject();
        t.feed();
        t.end();
        t.faultOfTown();
        t.faultOfLaw();
        t.text();
        t.textKeeps();
        t.nothingStale();
        t.player();
        t.set();
        t.tell();
        t.mark();
        t.damp();
        t.dampConditions();
        t.day();
        t.undo();
        t.time();
        t.timeByEcho();
        t.spreadWorstParts();
        t.last();
        t.settle();
        t.ringAndHead();
        t.week();
        t.leaderAndDeaf();
        t.marks();
        t.odds();
        t.paid();
        t.rollAndFits();
        t.echoes();
        t.gift();
        t.tune();
        t.placeAndOvertakes();
        t.middleAndEnds();
        t.stray();
        t.imageAndBack();
        t.count();
        t.check.close("PromisesTest");
    }

    private void newObject() {
        BorrowedBeat x = new BorrowedBeat();
        int[] counts = {0, 60, 0, 0, 0, NONE, 9, 0, 20, 0, 0, 0};
        for (int what = 0; what < counts.length; what++) {
            due("new: count(" + what + ")", x.count(what), counts[what]);
        }
        due("new: player", player(x, 0, 0), THROWN);
        due("new: tell", x.tell(0, 1, 5), false);
        due("new: mark", x.mark(0, true), false);
        due("new: mark not", x.mark(0, false), false);
        due("new: leader", x.leader(0, 0), HIDDEN);
        row("new: all others", new int[] {x.damp(0), x.day(NONE), x.undo(), x.time(0, 0, 0), x.spread(0), x.worst(0),
            x.worst(1), x.parts(), x.last(0), x.settle(0), x.ring(0), x.head(0), x.week(0), x.marks(0), x.odds(0, 1),
            x.paid(0), x.roll(0, 0, 0), x.fits(0), x.deaf(0), x.echoes(0), x.gift(0), x.tune(0, 0), x.place(0, 0),
            x.overtakes(0, 1), x.middle(), x.ends(0), x.stray(0, 1), x.image(), x.back()},
            NONE, NONE, NONE, NONE, NONE, NONE, NONE, NONE, NONE, NONE, NONE, NONE, NONE, NONE, NONE, NONE, NONE, NONE,
            NONE, NONE, NONE, NONE, NONE, NONE, NONE, NONE, NONE, NONE, NONE);
    }

    private void feed() {
        BorrowedBeat x = new BorrowedBeat();
        due("feed nothing", x.feed(0, 0, 0, 0, 0), 0);
        due("feed, highest first", x.feed('p' << 24 | 'b' << 16 | '6' << 8 | '1', 0, 0, 0, 0), 4);
        due("fed pb61", x.text(0), 1);
        due("pb61", player(x, 0, 0), 61);
        due("feed with gaps", x.feed('p', 'b' << 8, '5' << 16, '2' << 24, 0), 4);
        due("fed pb52", x.text(0), 1);
        due("pb52", player(x, 0, 0), 52);
        due("high bytes", x.feed(-1, 0x80808080, 0, 0, 0), 8);
        due("a high byte is no sign", x.fault(0), 0);
        for (int i = 0; i < 7; i++) {
            x.feed(-1, -1, -1, -1, -1);
        }
        due("148", x.count(3), 148);
        due("more than 160", x.feed(-1, -1, -1, 1, 0), NONE);
        due("nothing came", x.count(3), 148);
        due("just 160", x.feed(-1, -1, 0, -1, 0), 160);
        due("161", x.feed(0, 0, 0, 0, 1), NONE);
        due("160 and nothing", x.feed(0, 0, 0, 0, 0), 160);
    }

    private void end() {
        BorrowedBeat x = new BorrowedBeat();
        due("end(0) of none", x.end(0), true);
        due("end(1) of none", x.end(1), false);
        Check.feed(x, "pb61x");
        due("end(6)", x.end(6), false);
        due("end(-1)", x.end(-1), false);
        due("end(5)", x.end(5), true);
        due("5 left", x.count(3), 5);
        due("end(4)", x.end(4), true);
        due("4 left", x.count(3), 4);
        due("pb61", x.text(0), 1);
        due("BEAT", player(x, 0, 0), 61);
    }

    private void faultOfTown() {
        BorrowedBeat x = new BorrowedBeat();
        due("fault(2)", x.fault(2), -2);
        due("fault(-1)", x.fault(-1), -2);
        towns(NONE, "p", "m;p", "p;m", "pb1", "pb99", "pb01", "pb12", "pd0", "pd9", "pd09", "pk3", "pf1;p", "ph10", "ph0",
            "pf05;p;p;p;p;p", "mb1;p", "mb99;p", "ph1f1k1d1b1;p", "p;p;p;p;p;p;m", "  p  b 5  ;  m b 9  ", "p ", "p;pf0");
        towns(0, "", "x", ";", "b5", "1", "P");
        towns(1, " ", "m", "p,", "pp", "px", "mp", "p1", "md1;p", "mf0");
        towns(2, "m ", "p;", "pb", "pb0", "pb0;", "pb0x", "pd", "pk4", "pf6;p", "pf9", "pbx", "mb0;p", "m;m", "p;x", "p;;");
        towns(3, "pb ", "p b", "pd10", "pd10 1", "pk04;", "ph11", "ph99", "pb00", "pf0", "pf1", "pb1b2", "pk1k1", "pb1x", "m; m", "mb1b1;p");
        towns(4, "pb100", "pb000", "pd100", "ph001", "pb123", "pb1 2", "pf0 ", "p; p1");
        towns(5, "pf2;p", "p;pf1", "p;pf2");
        towns(12, "p;p;p;p;p;p;p", "p;p;p;m;p;p;m");
    }

    private void faultOfLaw() {
        laws(NONE, "y:0", "y:9999", "y:0000", "y:d+w-m*n/o", "y:d>1?2", "y:[1+2]*3", "y:!1=1?2", "y:(1=1)?2", "y:1;y:2",
            " y : 1 > 0 ? 2 ; y : 3 ", "y:[[[[[[1]]]]]]", "y:((((((1=1))))))?1", "y:!!!!!!1=1?1", "y:!(![1]=1)?2",
            "y:(1=1)&(1=1)|!1=2?1", "y:1=1&2=2|3=3?4", "y:[1]=[2]?[3]", "y:!1=1&!1=1&!1=1&!1=1&!1=1&!1=1&!1=1?1");
        laws(0, "", "x", "1", ":", "Y");
        laws(1, "y", "yy", "y1", " ");
        laws(2, "y:", "y:x", "y:y", "y:)", "y:?", "y:;", "y:+1", "y:=1");
        laws(3, "y:(", "y:!", "y:[", "y:1)", "y:1]", "y:1?2", "y:1|", "y:1&", "y:1d", "y:1[", "y:1(", "y:1!", "y:dd", "y:!?", "y:(]", "y:[(", "y:[!", "y: ", "y :");
        laws(4, "y:1=", "y:1;", "y:1+", "y:1;x", "y:1+?", "y:1 2", "y:[1", "y:(1", "y:(1)", "y:!1", "y:!1?", "y:[1=", "y:[1;");
        laws(5, "y:1=1", "y:1=1;", "y:1=1=", "y:1=1)", "y:1=1]", "y:1<1>", "y:!1=", "y:[1])", "y:(d=");
        laws(6, "y:12345", "y:00000", "y:1=1?", "y:1=1&", "y:1=1|", "y:1=1?!", "y:1=1?(", "y:(1=1", "y:(1=1?", "y:1=1?;");
        laws(7, "y:1=1?2?3", "y:1=1?2=3", "y:1=1?2&3", "y:(1=1)", "y:(1=1)=1", "y:(1=1)+1", "y:(1=1);", "y:(1=1)!");
        laws(8, "y:[[[[[[[1", "y:(((((((1", "y:!!!!!!!1", "y:(!(!(![1", "y:!(!(!(!1");
        // what is closed again counts no more
        laws(NONE, "y:[[[[[[1]]]]]]+[[[[[[1]]]]]]", "y:((((((1=1))))))&((((((1=1))))))?1", "y:!!!!!!1=1&!1=1?1");
        laws(10, "y:!!!!!!1=[1]");
    }

    private void text() {
        BorrowedBeat x = new BorrowedBeat();
        due("a TOWN", Check.give(x, 0, PAIR), 2);
        due("TAPE is empty", x.count(3), 0);
        due("no TEXT, no PLAYER", x.text(0), NONE);
        due("still the TOWN", x.count(0), 2);
        due("a FAULT", Check.give(x, 0, "pb0"), NONE);
        due("TAPE stays", x.count(3), 3);
        due("TOWN stays", x.count(0), 2);
        due("no such sort", Check.give(x, 2, "p"), NONE);
        due("no such sort below", x.text(-1), NONE);
        due("TAPE stays so", x.count(3), 1);
        due("a LAW is no TOWN", Check.give(x, 0, "y:1"), NONE);
        due("a TOWN is no LAW", Check.give(x, 1, "p"), NONE);
        for (int i = 0; i < 4; i++) {
            due("LAW " + i, Check.give(x, 1, "y:" + (i + 3)), i);
        }
        due("no fifth LAW", Check.give(x, 1, "y:1"), NONE);
        due("its TAPE stays", x.count(3), 3);
        due("LAWS", x.count(2), 4);
        x.set(0, 2);
        due("the third LAW", x.damp(0), 5);
        due("a TOWN all the same", Check.give(x, 0, "p;p;p;p;p;p;m"), 6);
    }

    private void textKeeps() {
        BorrowedBeat x = Check.town(PAIR);
        Check.give(x, 1, "y:m-50");
        x.set(0, 0);
        x.set(1, 12);
        x.set(2, 2);
        x.set(3, 30);
        x.tell(1, 2, 7);
        x.mark(3, true);
        x.roll(0, 0, 60);
        x.image();
        x.day(0);
        due("DAMP of the one TOWN", x.damp(1), 5);
        Check.give(x, 0, "pd2;p;mb51");
        due("DAMP of the other", x.damp(1), 1);
        int[] counts = {2, 51, 1, 0, 0, 0, 12, 2, 30, 0, 0, 0};
        for (int what = 0; what < counts.length; what++) {
            due("behind a TOWN: count(" + what + ")", x.count(what), counts[what]);
        }
        due("no LATE", player(x, 1, 6), 0);
        due("no IMAGE", x.back(), NONE);
        due("nothing to undo", x.undo(), NONE);
        due("no FOLLOWS", player(x, 1, 4), NONE);
        Check.give(x, 0, "p");
        due("without an m", x.count(1), 60);
        due("no more PLAYERS", player(x, 1, 0), THROWN);
    }

    /** What was worked out for one TOWN or one DAY must not answer for another. */
    private void nothingStale() {
        BorrowedBeat x = new BorrowedBeat();
        Check.give(x, 1, "y:o+n");
        Check.give(x, 1, "y:o+m/30");
        Check.give(x, 0, "p;p;p");
        x.set(0, 0);
        row("by LAW 0", new int[] {x.damp(0), x.damp(1), x.damp(2)}, 3, 6, 9);
        x.set(0, 1);
        row("by LAW 1", new int[] {x.damp(0), x.damp(1), x.damp(2)}, 2, 4, 6);
        Check.give(x, 0, "p;mb99");
        row("by LAW 1 of another TOWN", new int[] {x.damp(0), x.damp(1), x.damp(2)}, 3, 6, 9);
        x.set(0, 0);
        row("by LAW 0 of another TOWN", new int[] {x.damp(0), x.damp(1), x.damp(2)}, 1, 2, 3);
        x.set(0, NONE);
        Check.give(x, 0, "pb60;pb10");
        due("week", x.week(0), 1);
        Check.give(x, 0, "pb60;pb60");
        due("week of another TOWN", x.week(0), 0);
        Check.give(x, 0, "pb24d6;pb60;mb50");
        x.tell(1, 2, 10);
        x.image();
        due("PLAYER 0 comes to 60 by itself", x.week(0), 111111);
        due("PLAYER 0 comes to 60 by itself, how much", x.week(1), 0);
        for (int i = 0; i < 5; i++) {
            x.day(NONE);
        }
        due("too late for that", x.week(0) == 111111, false);
        x.back();
        due("week behind BACK", x.week(0), 111111);
        due("week behind BACK, how much", x.week(1), 0);
    }

    private void player() {
        BorrowedBeat x = Check.town("pb61d2k3f1h7;p");
        int[] first = {61, 61, 2, 3, 1, 7, 0};
        int[] second = {60, 60, 0, 0, NONE, 5, 0};
        for (int what = 0; what < 7; what++) {
            due("player(0, " + what + ")", player(x, 0, what), first[what]);
            due("player(1, " + what + ")", player(x, 1, what), second[what]);
        }
        int[][] none = {{2, 0}, {-1, 0}, {0, 7}, {0, -1}, {Integer.MAX_VALUE, 0}, {0, Integer.MIN_VALUE}};
        for (int[] one : none) {
            due("player(" + one[0] + ", " + one[1] + ")", player(x, one[0], one[1]), THROWN);
        }
        x.day(0);
        due("BEAT now", player(x, 0, 0), 60);
        due("BEAT at first", player(x, 0, 1), 61);
    }

    private void set() {
        BorrowedBeat x = new BorrowedBeat();
        due("no LAW 0", x.set(0, 0), false);
        due("no LAW holds", x.set(0, NONE), true);
        Check.give(x, 1, "y:1");
        due("LAW 0", x.set(0, 0), true);
        due("LAW 0 holds", x.count(5), 0);
        due("LAW 1", x.set(0, 1), false);
        due("LAW -2", x.set(0, -2), false);
        due("it holds on", x.count(5), 0);
        due("none", x.set(0, NONE), true);
        due("none holds", x.count(5), NONE);
        int[][] bounds = {{1, 1, 30, 6}, {2, 0, 3, 7}, {3, 0, 999, 8}};
        for (int[] b : bounds) {
            due("least", x.set(b[0], b[1]), true);
            due("least is so", x.count(b[3]), b[1]);
            due("most", x.set(b[0], b[2]), true);
            due("below", x.set(b[0], b[1] - 1), false);
            due("above", x.set(b[0], b[2] + 1), false);
            due("most is so", x.count(b[3]), b[2]);
        }
        due("no such what", x.set(4, 1), false);
        due("no such what below", x.set(-1, 1), false);
        due("no such what, HIDDEN", x.set(4, HIDDEN), false);
    }

    private void tell() {
        BorrowedBeat x = Check.town("p;p;p");
        due("FOLLOWS", x.tell(0, 0, 2), true);
        due("follows 2", player(x, 0, 4), 2);
        due("again", x.tell(0, 0, 2), true);
        due("itself", x.tell(0, 0, 0), false);
        due("no such one", x.tell(0, 0, 3), false);
        due("below nobody", x.tell(0, 0, -2), false);
        due("follows 2 still", player(x, 0, 4), 2);
        due("nobody", x.tell(0, 0, NONE), true);
        due("follows nobody", player(x, 0, 4), NONE);
        int[][] bounds = {{1, 10, 5}, {2, 50, 6}};
        for (int[] b : bounds) {
            due("most", x.tell(1, b[0], b[1]), true);
            due("above", x.tell(1, b[0], b[1] + 1), false);
            due("most is so", player(x, 1, b[2]), b[1]);
            due("least", x.tell(1, b[0], 0), true);
            due("below", x.tell(1, b[0], -1), false);
            due("least is so", player(x, 1, b[2]), 0);
        }
        due("others stay", player(x, 2, 5), 5);
        due("no such what", x.tell(0, 3, 1), false);
        due("no such what below", x.tell(0, -1, 1), false);
        due("no such PLAYER", x.tell(3, 1, 1), false);
        due("no such PLAYER below", x.tell(-1, 1, 1), false);
    }

    private void mark() {
        BorrowedBeat x = Check.town("p");
        due("mark(0)", x.mark(0, true), true);
        due("it is so", x.mark(0, true), false);
        due("mark(29), behind the end", x.mark(29, true), true);
        due("bits", x.count(9), 1 | 1 << 29);
        due("mark(30)", x.mark(30, true), false);
        due("mark(-1)", x.mark(-1, true), false);
        due("mark(32)", x.mark(32, false), false);
        due("not so", x.mark(5, false), false);
        due("no more", x.mark(0, false), true);
        due("bits then", x.count(9), 1 << 29);
    }

    private void law(String law, int... damps) {
        dampsIn("p;p;p;mb7", law, damps);
    }

    private void damp() {
        BorrowedBeat x = Check.town("p");
        due("without a LAW", x.damp(3), 0);
        Check.give(x, 1, "y:5");
        due("none holds", x.damp(3), 0);
        x.set(0, 0);
        due("damp(999)", x.damp(999), 5);
        due("damp(1000)", x.damp(1000), NONE);
        due("damp(-1)", x.damp(-1), NONE);
        law("y:d", 0, 1, 2, 3, 4, 5, 6, 7, 8, 9, 9, 9);
        law("y:w", 0, 1, 2, 3, 4, 5, 6, 0, 1);
        law("y:m", 7, 7);
        law("y:n", 3, 3);
        law("y:o+5", 5, 9, 9);
        law("y:9-o*9", 9, 0, 9, 0);
        Check.give(x, 1, "y:9-o");
        x.set(0, 1);
        row("far by the DAY ahead", new int[] {x.damp(999), x.damp(998), x.damp(3)}, 0, 9, 0);
        law("y:o+2-n*w/6", 2, 4, 5, 6, 6, 6, 5, 7);
        law("y:0-5", 0);
        law("y:7/2", 3);
        law("y:[0-7]/2+9", 6);
        law("y:5/0+3", 3);
        law("y:[5/0]*2+4", 4);
        law("y:[9999*9999-9999*100]/20", 5);
        law("y:[0-9999*9999+9999*100]/20+9", 4);
        law("y:[9999*100+9999+9999-9999*100]/10", 9);
        law("y:[9999*100+9999-9999*100]/20-1-[9999*0]", 4);
        law("y:9999*9999-9999*100-96", 4);
        law("y:0-9999*9999+9999*100+104", 4);
        law("y:9-2-1", 6);
        law("y:8/2/2", 2);
        law("y:8/3*2", 4);
        law("y:2+3*2", 8);
        law("y:[1+2]*3", 9);
        law("y:9-2*3+1", 4);
    }

    private void dampConditions() {
        law("y:d>1?4", 0, 0, 4, 4);
        law("y:d>3?1;y:d>1?2;y:3", 3, 3, 2, 2, 1);
        law("y:3;y:5", 3);
        law("y:d<2?4;y:1", 4, 4, 1);
        law("y:d=1?4;y:1", 1, 4, 1);
        law("y:1=1|1=2&1=2?5;y:3", 5);
        law("y:1=2&1=2|1=1?5;y:3", 5);
        law("y:(1=1|1=2)&1=2?5;y:3", 3);
        law("y:1=2|1=2|1=1&1=1?5;y:3", 5);
        law("y:1=1&1=2|1=2?5;y:3", 3);
        law("y:1=1|1=2|1=2?5;y:3", 5);
        law("y:1=2|1=1|1=2|1=2?5;y:3", 5);
        law("y:!1=2?4;y:1", 4);
        law("y:!1=1|1=1?4;y:1", 4);
        law("y:!(1=1|1=1)?4;y:1", 1);
        law("y:!!1=1?4;y:1", 4);
        law("y:[1+1]*2=4?4;y:1", 4);
        law("y:1+1=d?4;y:1", 1, 1, 4);
        law("y:o=0?7;y:o-1", 7, 6, 5, 4, 3, 2, 1, 0, 7, 6);
        law(" y : ! ( d > 2 ) & w < 2 ? 3 + 1 ; y : 2 ", 4, 4, 2, 2);
    }

    private void day() {
        BorrowedBeat x = Check.town("pd2;pd3k1;pd4k2;pd5k3;mb40");
        Check.give(x, 1, "y:d+2");
        x.set(0, 0);
        due("a DAY", x.day(NONE), 1);
        row("BEATS", beatsNow(x, 4), 62, 57, 68, 50);
        due("the next", x.day(2), 2);
        row("BEATS then", beatsNow(x, 4), 64, 54, 40, 35);
        due("no such PLAYER", x.day(4), NONE);
        due("no such PLAYER below", x.day(-2), NONE);
        due("no DAY went by", x.count(4), 2);
        x.day(0);
        row("BEATS behind three", beatsNow(x, 4), 40, 51, 56, 15);
        for (int i = 0; i < 60; i++) {
            x.day(NONE);
        }
        row("held", beatsNow(x, 4), 160, 1, 199, 1);
        due("DAYS", x.count(4), 63);
    }

    private void undo() {
        BorrowedBeat x = Check.town("pb10d1;pb20;mb50");
        due("none", x.undo(), NONE);
        x.day(NONE);
        x.day(1);
        due("two", x.count(11), 2);
        due("undo", x.undo(), 1);
        row("BEATS", beatsNow(x, 2), 11, 20);
        due("undo the other", x.undo(), 0);
        row("BEATS at first", beatsNow(x, 2), 10, 20);
        due("no more", x.undo(), NONE);
        for (int i = 0; i < 65; i++) {
            x.day(NONE);
        }
        due("60 at most", x.count(11), 60);
        for (int i = 64; i >= 5; i--) {
            due("undone " + i, x.undo(), i);
            due("BEAT of " + i, player(x, 0, 0), 10 + i);
        }
        due("no sixty-first", x.undo(), NONE);
        due("DAY", x.count(4), 5);
    }

    private void time() {
        BorrowedBeat x = Check.town(PAIR);
        row("BEATS", beats(x, 1, 9), 50, 55, 57, 58, 59, 59, 59, 59, 59);
        row("TIMES", times(x, 1, 0), 50, 105, 162, 220, 279, 338, 397, 456, 515);
        row("TIMES behind", times(x, 1, 1), 50, 105, 162, 220, 279, 338, 397, 456, 515);
        x.mark(1, true);
        row("marked", times(x, 1, 0), 50, 105, 177, 235, 294, 353, 412, 471, 530);
        row("marked, behind", times(x, 1, 1), 50, 120, 177, 235, 294, 353, 412, 471, 530);
        x.tell(1, 2, 3);
        row("late in each bar", times(x, 1, 0), 53, 111, 180, 241, 303, 365, 427, 489, 551);
        due("BEAT is no later", x.time(1, 2, 2), 57);
        int[][] none = {{2, 0, 0}, {-1, 0, 0}, {0, 9, 0}, {0, -1, 0}, {0, 0, 3}, {0, 0, -1}};
        for (int[] n : none) {
            due("time of none", x.time(n[0], n[1], n[2]), NONE);
        }
        x.set(1, 30);
        due("bar 29", x.time(0, 29, 0), 1800);
        BorrowedBeat down = Check.town("pb50;pb60f0h5");
        row("cut towards 0", beats(down, 1, 6), 60, 55, 53, 52, 51, 51);
        down.day(1);
        due("BEATS as they are", down.time(1, 0, 2), 60);
        BorrowedBeat far = Check.town("pb99;pb1f0h9");
        row("nine tenths", beats(far, 1, 4), 1, 89, 98, 98);
        far.tell(1, 1, 10);
        row("all", beats(far, 1, 3), 1, 99, 99);
        far.tell(1, 1, 0);
        row("nothing", beats(far, 1, 3), 1, 1, 1);
        due("these stay", player(far, 1, 0), 1);
    }

    private void timeByEcho() {
        BorrowedBeat x = Check.town("pb60;pb50f0h10;pb40f1h10");
        row("ECHO 0", beats(x, 2, 5), 40, 50, 60, 60, 60);
        x.set(2, 1);
        row("ECHO 1", beats(x, 2, 5), 40, 50, 50, 60, 60);
        x.set(2, 2);
        row("ECHO 2", beats(x, 2, 6), 40, 50, 50, 50, 60, 60);
        x.set(2, 3);
        row("ECHO 3", beats(x, 2, 7), 40, 50, 50, 50, 50, 60, 60);
        BorrowedBeat swap = Check.town("pb60f1h10;pb50f0h10");
        row("as it was", beats(swap, 0, 4), 60, 50, 60, 50);
        swap.set(2, 1);
        row("swapped by ECHO 1", beats(swap, 0, 6), 60, 50, 50, 60, 60, 50);
    }

    private void spreadWorstParts() {
        BorrowedBeat x = Check.town(PAIR);
        int[] spreads = {10, 15, 18, 20, 21, 22, 23, 24, 25};
        for (int bar = 0; bar < 9; bar++) {
            due("spread(" + bar + ")", x.spread(bar), spreads[bar]);
        }
        due("spread(9)", x.spread(9), NONE);
        due("spread(-1)", x.spread(-1), NONE);
        due("worst(0)", x.worst(0), 25);
        due("worst(1)", x.worst(1), 8);
        due("worst(2)", x.worst(2), NONE);
        due("worst(-1)", x.worst(-1), NONE);
        due("parts by 20", x.parts(), 4);
        x.set(3, 24);
        due("parts by 24", x.parts(), 8);
        x.set(3, 25);
        due("parts by 25", x.parts(), NONE);
        x.set(3, 0);
        due("parts by 0", x.parts(), 0);
        x.mark(1, true);
        due("ahead of waiting", x.spread(1), 15);
        due("behind it", x.spread(2), 3);
        due("worst, marked", x.worst(0), 15);
        due("its bar", x.worst(1), 1);
        BorrowedBeat late = Check.town(PAIR);
        late.tell(1, 2, 3);
        due("worst of several", late.worst(0), 9);
        due("the first", late.worst(1), 1);
        BorrowedBeat alone = Check.town("p");
        due("alone", alone.worst(0), 0);
        due("alone, its bar", alone.worst(1), 0);
        alone.set(3, 0);
        due("alone, no PARTING", alone.parts(), NONE);
    }

    private void last() {
        BorrowedBeat x = Check.town(PAIR);
        x.tell(1, 2, 3);
        due("last(6)", x.last(6), 0);
        due("last(7), alike", x.last(7), 0);
        due("last(8)", x.last(8), 1);
        due("last(9)", x.last(9), NONE);
        due("last(-1)", x.last(-1), NONE);
        x.mark(8, true);
        due("ahead of waiting", x.last(8), 1);
        due("three", Check.town("pb10;pb30;pb30").last(0), 1);
    }

    private void settle() {
        BorrowedBeat x = Check.town(PAIR);
        due("settle(0)", x.settle(0), 7);
        due("settle(1)", x.settle(1), 1);
        due("settle(2)", x.settle(2), NONE);
        due("settle(-1)", x.settle(-1), NONE);
        x.set(1, 1);
        due("no end", x.settle(0), 7);
        BorrowedBeat still = Check.town("pb5;pb70");
        due("still", still.settle(0), 0);
        due("still by", still.settle(1), 1);
        BorrowedBeat swap = Check.town("pb60f1h10;pb50f0h10");
        due("swap", swap.settle(0), 3);
        due("swap by", swap.settle(1), 2);
        // with ECHO 1 the row is 60 50 50 60 again and again: bar 4 has another bar ahead of it than bar 0
        swap.set(2, 1);
        row("swap by ECHO", new int[] {swap.settle(0), swap.settle(1)}, 2, 4);
        BorrowedBeat slow = Check.town("pb40f1h10;pb80f2h9;pb40f0h10");
        slow.set(2, 3);
        due("not within 200", slow.settle(0), NONE);
        due("not within 200, by", slow.settle(1), NONE);
        BorrowedBeat just = Check.town("pb18f1h10;pb75f2h10;pb65f0h8");
        just.set(2, 2);
        row("bar 200", new int[] {just.settle(0), just.settle(1)}, 199, 1);
        BorrowedBeat over = Check.town("pb59f1h10;pb54f2h7;pb12f3h6;pb92f0h10");
        over.set(2, 3);
        row("bar 201", new int[] {over.settle(0), over.settle(1)}, NONE, NONE);
    }

    private void ringAndHead() {
        BorrowedBeat x = Check.town("pf1;pf2;pf1;pf4;p;pf0");
        int[] rings = {6, 6, 6, 0, 0, 6};
        int[] heads = {NONE, NONE, NONE, 4, 4, NONE};
        for (int p = 0; p < 6; p++) {
            due("ring(" + p + ")", x.ring(p), rings[p]);
            due("head(" + p + ")", x.head(p), heads[p]);
        }
        due("ring(6)", x.ring(6), NONE);
        due("ring(-1)", x.ring(-1), NONE);
        due("head(6)", x.head(6), NONE);
        due("head(-1)", x.head(-1), NONE);
        BorrowedBeat all = Check.town("pf1;pf2;pf3;pf4;pf5;pf0");
        due("all in a RING", all.ring(3), 63);
        all.tell(5, 0, NONE);
        due("no RING", all.ring(3), 0);
        due("the end of a long one", all.head(0), 5);
        due("its own end", all.head(5), 5);
    }

    private void weekOf(String town, int row, int much) {
        BorrowedBeat x = Check.town(town);
        due("week(0) of " + town, x.week(0), row);
        due("week(1) of " + town, x.week(1), much);
    }

    private void week() {
        weekOf("pb60d1", 0, 0);
        weekOf("pb60;pb10", 1, 0);
        weekOf("pb60;pb10;pb10", 12, 0);
        weekOf("pb10;pb60", 0, 0);
        weekOf("pb60;pb60d1", 1, 0);
        weekOf("pb60d1;pb60d1", 1, 9);
        weekOf("pb20;pb10;pb30;pb40;pb50;pb70;mb60", 12345, 0);
        weekOf("pb20d1;pb10;pb30;pb40;pb50;pb70;mb60", 123450, 0);
        BorrowedBeat x = Check.town("pb60d1k2;pb60d1k2");
        due("without DAMP", x.week(1), 0);
        Check.give(x, 1, "y:d=5?9");
        x.set(0, 0);
        due("DAMP on the sixth DAY", x.week(1), 81);
        due("row then", x.week(0), 0);
        x.day(NONE);
        due("DAMP on the fifth", x.week(1), 0);
        due("its row", x.week(0), 1);
        due("DAY stays", x.count(4), 1);
        row("BEATS stay", beatsNow(x, 2), 60, 60);
        x.undo();
        due("as it was", x.week(1), 81);
        x.mark(2, true);
        due("with MARKS", x.week(1), 54);
        x.set(1, 3);
        due("with BARS", x.week(1), 27);
        x.tell(0, 2, 9);
        due("with LATE", x.week(1), 0);
        due("with LATE, row", x.week(0), 0);
        due("week(2)", x.week(2), NONE);
        // PLAYER 1 is 10 late, so PLAYER 0 must not be visited, but gain 40 on the wet first DAY alone
        BorrowedBeat wet = Check.town("pb20d5k2;pb60;mb50");
        wet.tell(1, 2, 10);
        Check.give(wet, 1, "y:d=0?8");
        wet.set(0, 0);
        due("the first DAY is wet", wet.week(0), 111111);
        due("the first DAY is wet, how much", wet.week(1), 0);
        due("week(-1)", x.week(-1), NONE);
    }

    private void leaderAndDeaf() {
        BorrowedBeat x = Check.town("pb60;pb50h10;pb70");
        due("leader", x.leader(1, 0), 2);
        due("how much", x.leader(1, 1), 90);
        due("FOLLOWS stays", player(x, 1, 4), NONE);
        x.tell(1, 0, 0);
        due("leader of another", x.leader(1, 0), 2);
        due("deaf", x.deaf(1), 180);
        due("FOLLOWS stays 0", player(x, 1, 4), 0);
        BorrowedBeat same = Check.town("pf1;pf0;pf0");
        due("nobody of several", same.leader(1, 0), NONE);
        due("no less", same.leader(1, 1), 0);
        BorrowedBeat two = Check.town("pb70;pb70;pb50h10");
        due("the lowest of several", two.leader(2, 0), 0);
        due("twenty once", two.leader(2, 1), 20);
        int[][] none = {{3, 0}, {-1, 0}, {0, 2}, {0, -1}};
        for (int[] n : none) {
            due("leader of none", x.leader(n[0], n[1]), HIDDEN);
        }
        due("alone", Check.town("p").leader(0, 0), NONE);
        due("deaf(3)", x.deaf(3), NONE);
        due("deaf(-1)", x.deaf(-1), NONE);
        due("deaf already", Check.town(PAIR).deaf(0), 25);
    }

    private void marks() {
        BorrowedBeat x = Check.town("pb60;pb50");
        x.mark(8, true);
        due("how many", x.marks(0), 4);
        due("which", x.marks(1), 1 | 4 | 16 | 64);
        due("MARKS stay", x.count(9), 256);
        x.set(3, 89);
        due("one", x.marks(0), 1);
        due("the least", x.marks(1), 1);
        x.set(3, 90);
        due("none", x.marks(0), 0);
        due("no bits", x.marks(1), 0);
        x.set(3, 9);
        due("it can't be", x.marks(0), NONE);
        due("it can't be, which", x.marks(1), NONE);
        x.set(3, 10);
        x.set(1, 30);
        due("all but the last", x.marks(0), 29);
        due("all but the last, which", x.marks(1), (1 << 29) - 1);
        x.tell(1, 2, 10);
        due("LATE counts", x.marks(0), 0);
        due("marks(2)", x.marks(2), NONE);
        due("marks(-1)", x.marks(-1), NONE);
    }

    private void odds() {
        BorrowedBeat x = Check.town("pb60;pb59d1k2");
        due("odds(0, 1)", x.odds(0, 1), 2);
        due("odds(1, 1)", x.odds(1, 1), 1);
        due("odds(0, 2)", x.odds(0, 2), 3);
        due("odds(1, 2)", x.odds(1, 2), 6);
        due("odds(0, 6)", x.odds(0, 6), 7);
        due("odds(1, 6)", x.odds(1, 6), 722);
        due("odds(0, 0)", x.odds(0, 0), NONE);
        due("odds(0, 7)", x.odds(0, 7), NONE);
        due("odds(2, 1)", x.odds(2, 1), NONE);
        due("odds(-1, 1)", x.odds(-1, 1), NONE);
        BorrowedBeat steady = Check.town("pb60;pb58d1");
        due("by DAYS 2", steady.odds(1, 2), 0);
        due("by DAYS 3", steady.odds(1, 3), 27);
        BorrowedBeat less = Check.town("pb60d1k3;pb59");
        due("less by 1", less.odds(0, 1), 2);
        due("less by 2", less.odds(0, 2), 3);
        due("BEATS stay", player(less, 0, 0), 60);
        BorrowedBeat end = Check.town("pb60;pb50f0h10");
        end.tell(1, 2, 2);
        due("at the end", end.odds(1, 1), 3);
        end.set(1, 4);
        due("at another end", end.odds(1, 1), 0);
    }

    private void paid() {
        BorrowedBeat x = Check.town(PAIR);
        due("paid(1)", x.paid(1), 3);
        due("paid(0)", x.paid(0), 0);
        x.mark(7, true);
        due("behind a mark", x.paid(1), 2);
        x.mark(7, false);
        x.mark(8, true);
        due("ahead of the last mark", x.paid(1), 3);
        due("paid(2)", x.paid(2), NONE);
        due("paid(-1)", x.paid(-1), NONE);
        BorrowedBeat same = Check.town("p;p");
        due("the only one", same.paid(0), 1);
        same.tell(0, 2, 10);
        due("in place of what it is", same.paid(0), 1);
        due("more than the other", same.paid(1), 11);
        due("LATE stays", player(same, 0, 6), 10);
        same.tell(0, 2, 50);
        due("it can't be", same.paid(1), NONE);
        same.tell(0, 2, 49);
        due("fifty", same.paid(1), 50);
        due("alone", Check.town("p").paid(0), 0);
    }

    private void rollAndFits() {
        BorrowedBeat x = Check.town("pb60;pb50f0h5;pb70;pb70");
        due("nothing told", x.fits(1), 64 | 1 | 4 | 8);
        due("told", x.roll(1, 0, 50), 1);
        due("all fit", x.fits(1), 64 | 1 | 4 | 8);
        due("told more", x.roll(1, 1, 110), 2);
        due("two fit", x.fits(1), 4 | 8);
        due("of others none fits", x.fits(0), 0);
        x.tell(1, 0, 2);
        due("whom it has not heard yet", x.fits(2), 64 | 1 | 2 | 8);
        due("all others as told", x.fits(0), 64 | 2 | 4 | 8);
        due("FOLLOWS stays", player(x, 1, 4), 2);
        x.mark(1, true);
        due("behind waiting", x.fits(1), 0);
        int[][] none = {{4, 0, 0}, {-1, 0, 0}, {0, 30, 0}, {0, -1, 0}, {0, 0, -1}, {0, 0, 10000}};
        for (int[] n : none) {
            due("roll of none", x.roll(n[0], n[1], n[2]), NONE);
        }
        due("two still", x.count(10), 2);
        due("TIME 0", x.roll(0, 0, 0), 3);
        due("TIME 9999", x.roll(0, 0, 9999), 4);
        due("fits(4)", x.fits(4), NONE);
        due("fits(-1)", x.fits(-1), NONE);
        BorrowedBeat many = Check.town("p;pb50");
        many.mark(0, true);
        for (int i = 1; i <= 20; i++) {
            due("roll " + i, many.roll(1, 0, 60), i);
        }
        due("no more than 20", many.roll(1, 0, 60), NONE);
        due("waited", many.fits(1), 64 | 1);
        BorrowedBeat beyond = Check.town("p;p");
        due("bar 29", beyond.roll(0, 29, 1800), 1);
        due("the PIECE has it not", beyond.fits(0), 0);
        beyond.set(1, 30);
        due("the PIECE has it", beyond.fits(0), 64 | 2);
        beyond.roll(0, 29, 9999);
        due("not so", beyond.fits(0), 0);
        BorrowedBeat cut = Check.town("p;p");
        cut.roll(0, 5, 360);
        due("bar 5", cut.fits(0), 64 | 2);
        cut.set(1, 5);
        due("no bar 5 of 5", cut.fits(0), 0);
    }

    private void echoes() {
        BorrowedBeat x = Check.town("pb60;pb50f0h10;pb40f1h10");
        x.set(2, 3);
        due("echoes(0)", x.echoes(0), 0);
        due("echoes(1)", x.echoes(1), 30);
        due("ECHO stays", x.count(7), 3);
        due("echoes(2)", x.echoes(2), NONE);
        due("echoes(-1)", x.echoes(-1), NONE);
        // by ECHO 0 the spreads are 20 12 27 16 29, by ECHO 1 20 12 20 12 27
        BorrowedBeat later = Check.town("pb40f2h10;pb40f2h4;pb60f0h10");
        later.set(1, 5);
        due("by ECHO 0", later.worst(0), 29);
        due("a later ECHO", later.echoes(0), 1);
        due("its WORST", later.echoes(1), 27);
        due("of several the least", Check.town("p;pb50").echoes(0), 0);
    }

    private void gift() {
        BorrowedBeat x = Check.town(PAIR);
        due("of several the lowest", x.gift(0), 0);
        due("how much", x.gift(1), 16);
        due("gift(2)", x.gift(2), NONE);
        due("gift(-1)", x.gift(-1), NONE);
        BorrowedBeat wet = Check.town("pb60;pb60d1k2");
        due("dry", wet.gift(0), 0);
        Check.give(wet, 1, "y:d*9");
        wet.set(0, 0);
        due("dry on DAY 0", wet.gift(0), 0);
        wet.day(NONE);
        due("wet on DAY 1", wet.gift(0), 1);
        due("how much then", wet.gift(1), 0);
        due("DAY stays", wet.count(4), 1);
        row("BEATS stay", beatsNow(wet, 2), 60, 60);
    }

    private void tune() {
        BorrowedBeat x = Check.town(PAIR);
        due("tune(1, 0)", x.tune(1, 0), 7);
        due("tune(1, 1)", x.tune(1, 1), 20);
        due("HOW much stays", player(x, 1, 5), 5);
        due("there is none", x.tune(0, 0), NONE);
        due("there is none, WORST", x.tune(0, 1), NONE);
        x.set(3, 25);
        due("its own", x.tune(1, 0), 5);
        due("its own WORST", x.tune(1, 1), 25);
        int[][] none = {{2, 0}, {-1, 0}, {1, 2}, {1, -1}};
        for (int[] n : none) {
            due("tune of none", x.tune(n[0], n[1]), NONE);
        }
        BorrowedBeat up = Check.town("pb60;pb50f0h0");
        up.set(3, 10);
        due("from 0 up to 10", up.tune(1, 0), 10);
        due("WORST of 10", up.tune(1, 1), 10);
        BorrowedBeat down = Check.town("pb50;pb60f0h10");
        down.tell(0, 2, 10);
        down.set(3, 0);
        due("from 10 down to 0", down.tune(1, 0), 0);
        due("WORST of 0", down.tune(1, 1), 0);
        BorrowedBeat twin = Check.town("pb70f2h10;pb60f2h6;pb70f1h8");
        twin.set(3, 15);
        due("its own will not do", twin.parts() != NONE, true);
        twin.tell(1, 1, 7);
        due("one more will", twin.parts(), NONE);
        twin.tell(1, 1, 5);
        due("one less will", twin.parts(), NONE);
        int worst = twin.worst(0);
        twin.tell(1, 1, 6);
        due("of two the less", twin.tune(1, 0), 5);
        due("its WORST", twin.tune(1, 1), worst);
    }

    private void placeAndOvertakes() {
        BorrowedBeat x = Check.town(PAIR);
        x.tell(1, 2, 3);
        row("places", new int[] {x.place(6, 0), x.place(6, 1), x.place(7, 0), x.place(7, 1), x.place(8, 0), x.place(8, 1)},
            1, 0, 0, 1, 0, 1);
        int[][] none = {{9, 0}, {-1, 0}, {0, 2}, {0, -1}};
        for (int[] n : none) {
            due("place of none", x.place(n[0], n[1]), NONE);
        }
        due("overtakes", x.overtakes(0, 1), 1);
        due("the other way", x.overtakes(1, 0), 1);
        due("alike", x.overtakes(1, 1), NONE);
        due("none such", x.overtakes(0, 2), NONE);
        due("none such below", x.overtakes(-1, 0), NONE);
        // ahead by turns: 60 110 170 220 and 50 110 160 220: alike in each second bar
        BorrowedBeat swap = Check.town("pb60f1h10;pb50f0h10");
        due("ahead anew each second bar", swap.overtakes(0, 1), 4);
        swap.set(1, 2);
        due("alike in the end", swap.overtakes(0, 1), 0);
        BorrowedBeat turn = Check.town("pb60;pb50f2h10;pb70");
        turn.tell(0, 2, 0);
        due("no mark", turn.overtakes(0, 1), 1);
        turn.mark(0, true);
        due("with a mark", turn.overtakes(0, 1), 1);
        BorrowedBeat order = Check.town("pb40;pb20;pb30;pb20");
        row("order", new int[] {order.place(0, 0), order.place(0, 1), order.place(0, 2), order.place(0, 3)}, 1, 3, 2, 0);
        order.mark(0, true);
        due("ahead of waiting", order.place(0, 3), 0);
    }

    private void middleAndEnds() {
        due("alone", Check.town("p").middle(), 0);
        due("middle", Check.town("pb10;pb20;pb90").middle(), 1);
        due("of several the lowest", Check.town("pb10;pb20").middle(), 0);
        due("in the end", Check.town("pb60;pb61;pb90").middle(), 1);
        BorrowedBeat x = Check.town("pb90;pb10;pb20;pb20");
        due("of four", x.middle(), 2);
        x.mark(8, true);
        due("ahead of waiting", x.middle(), 2);
        x.tell(0, 2, 50);
        due("the greatest", x.ends(0), 1260);
        due("the least", x.ends(1), 90);
        due("ends(2)", x.ends(2), NONE);
        due("ends(-1)", x.ends(-1), NONE);
        x.set(1, 1);
        due("the greatest of one bar", x.ends(0), 140);
        due("the least of one bar", x.ends(1), 10);
    }

    private void stray() {
        BorrowedBeat x = Check.town("pb90;pb60f2h10;pb60f0h10");
        due("stray(1, 1)", x.stray(1, 1), 2);
        due("stray(1, 30)", x.stray(1, 30), 2);
        due("stray(1, 31)", x.stray(1, 31), NONE);
        due("stray(2, 30)", x.stray(2, 30), 1);
        due("stray(0, 1)", x.stray(0, 1), NONE);
        x.day(NONE);
        due("stray(1, 0)", x.stray(1, 0), NONE);
        due("stray(1, 100)", x.stray(1, 100), NONE);
        due("stray(3, 1)", x.stray(3, 1), NONE);
        due("stray(-1, 1)", x.stray(-1, 1), NONE);
        x.set(1, 2);
        due("behind the end", x.stray(1, 1), NONE);
        BorrowedBeat far = Check.town("pb99d9;pb1f0h10");
        for (int i = 0; i < 12; i++) {
            far.day(NONE);
        }
        due("far off", far.stray(1, 99), 1);
        due("stray(1, 100) of 198", far.stray(1, 100), NONE);
        BorrowedBeat down = Check.town("pb1;pb99f0h10");
        due("downwards", down.stray(1, 98), 1);
        due("stray(1, 99)", down.stray(1, 99), NONE);
    }

    private void imageAndBack() {
        BorrowedBeat x = Check.town("pb10d1;mb50");
        due("no IMAGE", x.back(), NONE);
        x.day(NONE);
        due("image", x.image(), 1);
        x.day(0);
        x.day(NONE);
        x.tell(0, 2, 4);
        due("three to undo", x.count(11), 3);
        due("back", x.back(), 1);
        due("BEAT", player(x, 0, 0), 11);
        due("DAY", x.count(4), 1);
        due("LATE stays", player(x, 0, 6), 4);
        due("no DAY to undo", x.undo(), NONE);
        x.day(NONE);
        due("back again", x.back(), 1);
        due("BEAT again", player(x, 0, 0), 11);
        x.day(NONE);
        x.day(NONE);
        due("another IMAGE", x.image(), 3);
        x.undo();
        due("one left", x.count(11), 1);
        due("back to the other", x.back(), 3);
        due("its BEAT", player(x, 0, 0), 13);
    }

    private void count() {
        BorrowedBeat x = Check.town(PAIR);
        Check.give(x, 1, "y:1");
        Check.give(x, 1, "y:2");
        x.set(0, 1);
        x.set(1, 8);
        x.set(2, 3);
        x.set(3, 17);
        x.mark(4, true);
        x.roll(0, 0, 1);
        x.day(0);
        x.day(0);
        x.day(0);
        x.undo();
        Check.feed(x, "abc");
        int[] counts = {2, 55, 2, 3, 2, 1, 8, 3, 17, 16, 1, 2};
        for (int what = 0; what < counts.length; what++) {
            due("count(" + what + ")", x.count(what), counts[what]);
        }
        due("count(12)", x.count(12), HIDDEN);
        due("count(-1)", x.count(-1), HIDDEN);
        due("NONE", BorrowedBeat.NONE, -1);
        due("HIDDEN", BorrowedBeat.HIDDEN, -1000000);
    }
}
