/** Sentences of the document about TAPE and TEXTS that name a boundary case, each by itself. */
public final class TextBoundsTest extends Asking {
    private static final String DIGITS = "0123456789";
    private static final String ATOMS = DIGITS + "dwmno[";
    private static final String UNITS = ATOMS + "!(";
    private static final String SIX = "p;p;p;p;p;p";

    /** What a PLAYER has without ITEMS: BEAT as it is and at first, DRIFT, KIND, whom it FOLLOWS, HOW much. */
    private static final int[] USUAL = {60, 60, 0, 0, NONE, 5};

    public static void main(String[] args) {
        TextBoundsTest t = new TextBoundsTest();
        t.use();
        t.feed();
        t.end();
        t.players();
        t.metronome();
        t.items();
        t.numbers();
        t.digitsTooMany();
        t.signsOfTown();
        t.lettersAgain();
        t.whomOneFollows();
        t.clausesOfLaw();
        t.signsOfLaw();
        t.signsBehindUnits();
        t.within();
        t.withinElsewhere();
        t.numbersOfLaw();
        t.blanks();
        t.firstByte();
        t.endsTooEarly();
        t.text();
        t.fourLaws();
        t.sorts();
        t.fullTape();
        t.check.close("TextBoundsTest");
    }

    private void use() {
        says("An object is used for at most 512 calls");
        BorrowedBeat x = Check.town("pb10d1");
        for (int call = 4; call < 512; call++) {
            due("call " + call, x.day(NONE), call - 3);
        }
        due("call 512", x.count(4), 508);
    }

    private void feed() {
        says("Twenty bytes more come to the TAPE (of each number the highest first; bytes of 0 are left out): how many it has.");
        BorrowedBeat x = new BorrowedBeat();
        due("no bytes", x.feed(0, 0, 0, 0, 0), 0);
        due("one, the lowest of the last", x.feed(0, 0, 0, 0, 'p'), 1);
        due("one, the highest of the first", x.feed('b' << 24, 0, 0, 0, 0), 2);
        due("one in each number", x.feed('5', '5' << 8 | ' ' << 24, ';' << 16, 'p' << 24, 'b'), 8);
        due("faulty with 5 5", x.fault(0), 4);
        x.end(2);
        due("from the highest to the lowest", x.feed('1' << 24 | '7' << 16 | ';' << 8 | 'p', 'b' << 16 | '2' << 8, '3', 0, 0), 9);
        due("pb17;pb23", x.text(0), 2);
        due("17", player(x, 0, 0), 17);
        due("23", player(x, 1, 0), 23);
        due("twenty", x.feed(-1, Integer.MIN_VALUE | 0x10101, 0x7f7f7f7f, 0x01010101, 0x20202020), 20);
        says("NONE: more than 160.");
        BorrowedBeat y = new BorrowedBeat();
        for (int n = 20; n <= 160; n += 20) {
            due("to " + n, y.feed(-1, -1, -1, -1, -1), n);
        }
        due("nothing to 160", y.feed(0, 0, 0, 0, 0), 160);
        due("one to 160", y.feed(0, 0, 1 << 16, 0, 0), NONE);
        due("160 still", y.count(3), 160);
        y.end(159);
        due("two to 159", y.feed(1, 0, 0, 0, 1), NONE);
        due("159 still", y.count(3), 159);
        due("one to 159", y.feed(0, 0, 0, 1 << 24, 0), 160);
        y.end(141);
        due("twenty to 141", y.feed(-1, -1, -1, -1, -1), NONE);
        due("nineteen to 141", y.feed(-1, -1, 0x01010001, -1, -1), 160);
        y.end(140);
        due("twenty to 140", y.feed(-1, -1, -1, -1, -1), 160);
    }

    private void end() {
        says("The TAPE has its first n bytes alone. False: n.");
        BorrowedBeat x = new BorrowedBeat();
        due("end(0) of none", x.end(0), true);
        due("end(1) of none", x.end(1), false);
        Check.feed(x, "pb61;pb1234");
        int[] none = {-1, 12, 13, 161, Integer.MAX_VALUE, Integer.MIN_VALUE};
        for (int n : none) {
            due("end(" + n + ")", x.end(n), false);
            due("bytes behind end(" + n + ")", x.count(3), 11);
        }
        due("all", x.end(11), true);
        due("all are there", x.count(3), 11);
        due("with all", x.fault(0), 9);
        due("end(9)", x.end(9), true);
        due("end(10) of 9", x.end(10), false);
        due("end(8)", x.end(8), true);
        due("pb61;pb1", x.text(0), 2);
        due("1", player(x, 1, 0), 1);
        Check.feed(x, "p");
        due("end(0)", x.end(0), true);
        due("none", x.count(3), 0);
        due("no TEXT", x.fault(0), 0);
        Check.feed(x, "pb9");
        due("what was cut off does not come again", x.fault(0), NONE);
        String cut = "p b  7 1;;dy:1 =  d?";
        for (int n = 0; n <= cut.length(); n++) {
            BorrowedBeat y = new BorrowedBeat();
            Check.feed(y, cut);
            y.end(n);
            due("a TOWN of the first " + n, y.fault(0), Check.fault(0, cut.substring(0, n)));
            due("a LAW of the first " + n, y.fault(1), Check.fault(1, cut.substring(0, n)));
        }
        BorrowedBeat y = new BorrowedBeat();
        Check.feed(y, "y:1=  ");
        y.end(4);
        due("blanks cut off", y.fault(1), 4);
        y.end(0);
        Check.feed(y, "pb    ");
        y.end(3);
        due("all blanks but one cut off", y.fault(0), 3);
    }

    private void players() {
        says("p (a PLAYER; 1 .. 6)");
        String town = "p";
        for (int n = 1; n <= 6; n++) {
            due(n + " PLAYERS", Check.give(new BorrowedBeat(), 0, town), n);
            town += ";p";
        }
        says("a seventh p, a second m, a seventh of ( [ ! at it.");
        towns(12, town, "p;p;p;p;p;p;pb0", "p;p;p;p;p;p;p;p", "p;p;p;p;p;p;pf9");
        towns(14, "m;p;p;p;p;p;p;p", "p;p;p;m;p;p;p;p", "p;p;p;p;p;p;m;p");
        towns(13, "p;p;p;p;p;p; p");
        says("or without a PLAYER");
        towns(0, "");
        towns(1, "m", " ");
        towns(3, "mb7", "m  ");
        towns(4, "mb99", " mb7");
        says("nobody without");
        due("FOLLOWS", player(Check.town("p;p"), 1, 4), NONE);
    }

    private void metronome() {
        says("m (the METRONOME; one at most), in any order");
        String[] orders = {"mb7;p;p", "p;mb7;p", "p;p;mb7"};
        for (String town : orders) {
            BorrowedBeat x = Check.town(town);
            due("PLAYERS of " + town, x.count(0), 2);
            due("METRONOME of " + town, x.count(1), 7);
        }
        towns(NONE, "m;p;p;p;p;p;p", "p;p;p;m;p;p;p", "p;p;p;p;p;p;m");
        says("a seventh p, a second m");
        towns(2, "m;m", "m;m;p", "m;mb0", "p;x");
        towns(4, "m;p;m", "p;m;m", "p;m;mb5");
        towns(14, "p;p;p;m;p;p;p;m", "m;p;p;p;p;p;p;m");
        says("of m: b its BEAT (1 .. 99; 60, without an m, too)");
        due("without a b", Check.town("m;p").count(1), 60);
        due("without an m", Check.town("p").count(1), 60);
        due("an m's b is no PLAYER's", player(Check.town("p;mb7"), 0, 1), 60);
        BorrowedBeat x = Check.town("p;mb7");
        Check.give(x, 0, "p");
        due("without an m, behind a TOWN with one", x.count(1), 60);
        Check.give(x, 0, "p;mb8");
        Check.give(x, 0, "p;m");
        due("without a b, behind a TOWN with one", x.count(1), 60);
        for (char letter : "dkfh".toCharArray()) {
            towns(1, "m" + letter, "m" + letter + "1;p");
            towns(4, "mb10" + letter, "mb10" + letter + "1;p");
        }
    }

    /** A PLAYER with this letter and all one- and two-digit numbers. */
    private void item(char letter, int what, int least, int most) {
        int usual = USUAL[what];
        due("without " + letter, player(Check.town("p"), 0, what), usual);
        BorrowedBeat stale = Check.town("p" + letter + most + (letter == 'f' ? ";" + SIX.substring(2) : ""));
        Check.give(stale, 0, "p;p");
        due("without " + letter + ", behind a TOWN with one", player(stale, 0, what), usual);
        due("without " + letter + ", of another", player(stale, 1, what), usual);
        for (int n = 0; n < 110; n++) {
            String digits = n < 10 ? "" + n : n < 20 ? "0" + (n - 10) : "" + (n - 10);
            int value = Integer.parseInt(digits);
            String town = "p;p" + letter + digits + (letter == 'f' ? ";p;p;p;p" : "");
            if (letter == 'f' && value == 1) {
                towns(town.length(), town);
            } else if (value < least || value > most) {
                towns(1 + digits.length(), "p" + letter + digits, "p" + letter + digits + ";p", "p" + letter + digits + " 1");
                towns(3 + digits.length(), town, town + "x");
            } else {
                BorrowedBeat x = new BorrowedBeat();
                due(town, Check.give(x, 0, town), letter == 'f' ? 6 : 2);
                due("of " + town, player(x, 1, what), value);
                for (int other = 1; other <= 5; other++) {
                    due("all else of " + town, player(x, 1, other), other == what ? value : USUAL[other]);
                }
                due("of another in " + town, player(x, 0, what), usual);
            }
        }
    }

    private void items() {
        says("of p: b BEAT (1 .. 99; 60 without");
        item('b', 1, 1, 99);
        due("BEAT as it is", player(Check.town("pb99"), 0, 0), 99);
        says("d DRIFT (0 .. 9; 0)");
        item('d', 2, 0, 9);
        says("k KIND (0 .. 3; 0)");
        item('k', 3, 0, 3);
        says("f whom it FOLLOWS (0 .. 5; nobody without)");
        item('f', 4, 0, 5);
        says("h HOW much (0 .. 10; 5: tenths)");
        item('h', 5, 0, 10);
        says("of m: b its BEAT (1 .. 99");
        towns(4, "p;mb0", "p;mb0;p", "p;mb0 ");
        towns(5, "p;mb00", "p;mb00;");
        for (int v = 1; v <= 99; v++) {
            due("METRONOME " + v, Check.town("p;mb" + v).count(1), v);
        }
        due("METRONOME 09", Check.town("mb09;p").count(1), 9);
        says("ITEMS, none or more: a letter, each once at most in a CLAUSE");
        towns(NONE, "p", "pb1d1k1f1h1;p", "ph1f1k1d1b1;p", "pd1b1;p", "pb1;pb1;mb1", "pb1d2;pb1d2;pd2b1", "mb1;pb1");
    }

    private void numbers() {
        says("a number (one or two digits)");
        towns(2, "pb", "pb;", "pbd1", "pb-", "pd", "pk;", "pf;p", "ph;", "mb", "mb;p");
        towns(NONE, "pb1", "pb01", "pb10", "pd01", "pk00", "pf01;p", "ph01", "mb1;p", "mb01;p");
        says("a number out of bounds is wrong at its last digit");
        towns(2, "pb0", "pk4", "pf6;p;p;p;p;p", "mb0;p", "pb0;p", "pk9d1", "pb0pb0", "pb0 0");
        towns(3, "pb00", "pk40", "pd10", "pf06", "pf60;p", "ph11", "ph99", "pd99", "mb00;p");
        due("the last digit alone tells", Check.fault(0, "pk03"), NONE);
        due("the last digit may mend it", Check.fault(0, "pb01"), NONE);
    }

    private void digitsTooMany() {
        says("a third digit (a fifth one in a LAW) itself, whatever stands ahead of it");
        for (char letter : "bdkfh".toCharArray()) {
            for (int n = 0; n <= 99; n++) {
                String two = (n < 10 ? "0" : "") + n;
                towns(4, "p" + letter + two + "0", "p" + letter + two + "1;p", "p" + letter + two + "9999");
            }
        }
        towns(4, "mb000", "mb001", "mb990;p", "mb100");
        towns(6, "p;pb000", "p;mb100");
        laws(6, "y:00000", "y:00001", "y:99999", "y:10000;", "y:123456", "y:12345x");
        laws(7, "y:[12345", "y:(99999", "y:!00000");
        laws(8, "y:d+00000", "y:d=12345", "y:d*99999]");
        laws(10, "y:d=1?12345", "y:d=1&00001", "y:1=1|99999");
        laws(8, "y:[[12345", "y:d-00000");
        towns(NONE, "pb01", "pb99");
        laws(NONE, "y:0000", "y:9999", "y:0009");
    }

    /** Which signs may go on behind a beginning: all others are the FAULT. */
    private void goesOn(int sort, String start, String signs) {
        for (int sign = 1; sign <= 255; sign++) {
            int fault = Check.fault(sort, start + (char) sign);
            boolean may = sign == ' ' || signs.indexOf(sign) >= 0;
            boolean goes = fault == NONE || fault == start.length() + 1;
            due("fault(" + sort + ") of '" + start + (char) sign + "'", may ? goes : fault == start.length(), true);
        }
    }

    private void signsOfTown() {
        says("FAULT: the first byte at which no such TEXT can go on");
        String[][] ways = {{"", "pm"}, {" ", "pm"}, {"p", "bdkfh;"}, {"p ", "bdkfh;"}, {"pb1", DIGITS + "dkfh;"}, {"pb12", "dkfh;"},
            {"pb1 ", "dkfh;"}, {"pd0", DIGITS + "bkfh;"}, {"pd1", "bkfh;"}, {"pk0", "0123bdfh;"}, {"pk3", "bdfh;"},
            {"pf0", "012345bdkh;"}, {"pf5", "bdkh;"}, {"ph0", DIGITS + "bdkf;"}, {"ph1", "0bdkf;"}, {"ph10", "bdkf;"}, {"ph2", "bdkf;"},
            {"pb1d1k1f1h10", ";"}, {"p;", "pm"}, {"m", "b;"}, {"mb1", DIGITS + ";"}, {"mb12", ";"}, {"m;", "p"}, {"p;m;", "p"},
            {SIX + ";", "m"}, {SIX + ";m;", ""}, {"m;" + SIX + ";", ""}, {SIX, "bdkfh;"}, {SIX + ";m", "b;"}, {"p;p;p;p;p;", "pm"}};
        for (String[] way : ways) {
            goesOn(0, way[0], way[1]);
        }
        says("a number out of bounds is wrong at its last digit");
        for (char digit : DIGITS.toCharArray()) {
            towns(digit == '0' ? 3 : NONE, "pb0" + digit, "mb0" + digit + ";p");
        }
        String[] starts = {"pb", "pd", "pk", "pf", "ph", "mb"};
        for (String start : starts) {
            for (int sign = 1; sign <= 255; sign++) {
                boolean may = sign == ' ' || DIGITS.indexOf(sign) >= 0;
                due("fault(0) of '" + start + (char) sign + "'", may || Check.fault(0, start + (char) sign) == 2, true);
            }
        }
    }

    private void lettersAgain() {
        says("a letter that was there");
        String all = "b1d1k1f1h1";
        for (int i = 0; i < all.length(); i += 2) {
            String one = all.substring(i, i + 2);
            towns(3, "p" + one + one, "p" + one + one.charAt(0), "p" + one + one + ";p");
            towns(11, "p" + all + one, "p" + all + one.charAt(0) + "x");
            for (int k = 0; k < all.length(); k += 2) {
                String other = all.substring(k, k + 2);
                towns(k == i ? 3 : 5, "p" + one + other + one);
            }
            towns(NONE, "pf1h1;p" + one.replace("f1", "f0") + ";p" + one);
        }
        towns(3, "mb1b1", "mb1b");
        towns(5, "p;mb1b1", "m;pb1b1", "p;pb1b1");
    }

    private void whomOneFollows() {
        says("or with an f that is no PLAYER told, or the PLAYER itself");
        String[] ends = {"", ";p", ";p;p", ";p;p;p", ";p;p;p;p", ";p;p;p;p;p"};
        for (int players = 1; players <= 6; players++) {
            for (int f = 0; f <= 5; f++) {
                String town = "pf" + f + ends[players - 1];
                towns(f > 0 && f < players ? NONE : town.length(), town);
                String last = SIX.substring(0, 2 * players - 1) + "f" + f;
                towns(f < players - 1 ? NONE : last.length(), last);
            }
        }
        towns(NONE, "pf5;pf0;pf1;pf2;pf3;pf4", "m;pf1;p", "pf1;m;p");
        towns(5, "pf1;m", "pf0;p", "m;pf1", "m;pf0", "pf2;m", "pf1  ", "pf0  ");
        says("(the length, if it ends too early");
        towns(4, "pf1;", "pf0;", "pf1 ", "pf05");
        towns(4, "pf1;x", "pf0;x");
        towns(6, "pf0;pb0", "pf3;pk4");
    }

    private void clausesOfLaw() {
        says("LAWS (4 at most) are TEXTS: CLAUSES with ; between, one at least");
        laws(0, "", ";", "1", "d", "x", ":y");
        laws(2, "y:;", "y:", "y:;y:1");
        laws(4, "y:1;", "y:1;;", "y:1;1", "y:1;d", "y:d;:");
        laws(NONE, "y:1", "y:1;y:2", "y:1;y:2;y:3;y:4;y:5;y:6;y:7;y:8;y:9");
        says("y, : , perhaps CONDITION ?, then SUM");
        laws(NONE, "y:d", "y:d=1?d", "y:!d=1?d", "y:(d=1)?d");
        laws(2, "y:?", "y:?1");
        laws(3, "y:1?1", "y:d?", "y:(?", "y:!?");
        laws(7, "y:1=1?1?", "y:1=1?1=", "y:1=1?1&", "y:1=1?1|");
        says("(A CLAUSE that goes on with ! or ( behind its : has a CONDITION.)");
        laws(4, "y:(1)", "y:(1", "y:!1", "y:!1;", "y:(1?");
        laws(7, "y:(1=1)", "y:(1=1);", "y:(1=1)+", "y:(1=1)*2", "y:(1=1)=1");
        laws(6, "y:!1=1", "y:!1=1;", "y:!1=1)");
    }

    private void signsOfLaw() {
        says("ATOM: a number (1 to 4 digits), a letter (d w m n o), [ SUM ]");
        String behindAtom = "+-*/=<>;";
        String[][] ways = {{"", "y"}, {"y", ":"}, {"y:", UNITS}, {"y:1", DIGITS + behindAtom}, {"y:123", DIGITS + behindAtom},
            {"y:1234", behindAtom}, {"y:1 ", behindAtom}, {"y:d", behindAtom}, {"y:w", behindAtom}, {"y:m", behindAtom},
            {"y:n", behindAtom}, {"y:o", behindAtom}, {"y:1+", ATOMS}, {"y:d-", ATOMS}, {"y:d*", ATOMS}, {"y:d/", ATOMS},
            {"y:d+1", DIGITS + behindAtom}, {"y:[", ATOMS}, {"y:[1", DIGITS + "+-*/]"}, {"y:[d", "+-*/]"}, {"y:[d+", ATOMS},
            {"y:[[d]", "+-*/]"}, {"y:[d]", behindAtom}, {"y:[d]*", ATOMS}, {"y:d;", "y"}, {"y:d;y", ":"}, {"y:d;y:", UNITS}};
        for (String[] way : ways) {
            goesOn(1, way[0], way[1]);
        }
    }

    private void signsBehindUnits() {
        says("UNIT: ! UNIT, ( CONDITION ), or SUM, one of = < >, SUM.");
        String[][] ways = {{"y:d=", ATOMS}, {"y:d<", ATOMS}, {"y:d>", ATOMS}, {"y:d=1", DIGITS + "+-*/&|?"}, {"y:d=[1]", "+-*/&|?"},
            {"y:d=1&", UNITS}, {"y:d=1|", UNITS}, {"y:d=1&d", "+-*/=<>"}, {"y:d=1|d", "+-*/=<>"}, {"y:d=1?", ATOMS},
            {"y:d=1?d", "+-*/;"}, {"y:d=1?[", ATOMS}, {"y:d=1?[d]", "+-*/;"}, {"y:(", UNITS}, {"y:(d", "+-*/=<>"}, {"y:(d=", ATOMS},
            {"y:(d=d", "+-*/&|)"}, {"y:(d=d&", UNITS}, {"y:(d=d)", "&|?"}, {"y:((d=d)", "&|)"}, {"y:(d=d)&", UNITS}, {"y:(d=d)?", ATOMS},
            {"y:!", UNITS}, {"y:!d", "+-*/=<>"}, {"y:!d=d", "+-*/&|?"}, {"y:!(", UNITS}, {"y:!(d=d)", "&|?"}, {"y:!(d=d", "+-*/&|)"},
            {"y:!!", UNITS}, {"y:(!d=d", "+-*/&|)"}, {"y:(!d=d)", "&|?"}, {"y:d=1?d;", "y"}};
        for (String[] way : ways) {
            goesOn(1, way[0], way[1]);
        }
    }

    private static String times(String sign, int count) {
        StringBuilder s = new StringBuilder();
        for (int i = 0; i < count; i++) {
            s.append(sign);
        }
        return s.toString();
    }

    private void within() {
        says("At most six of ( [ ! within one another.");
        for (int n = 0; n <= 6; n++) {
            laws(NONE, "y:" + times("[", n) + "d" + times("]", n), "y:" + times("(", n) + "1=1" + times(")", n) + "?d",
                "y:" + times("!", n) + "1=1?d", "y:" + times("!(", n / 2) + "1=1" + times(")", n / 2) + "?d");
        }
        laws(NONE, "y:(!(!([d]=1)))?d", "y:!!!!![d]=[d]?d", "y:((((([d]=[d])))))?d");
        says("a seventh of ( [ ! at it.");
        laws(8, "y:[[[[[[[", "y:[[[[[[[d]]]]]]]", "y:(((((((", "y:(((((((1=1)))))))?d", "y:!!!!!!!", "y:!!!!!!!1=1?d",
            "y:(((((([", "y:((((((!", "y:!!!!!!(", "y:!!!!!![", "y:!(!(!(!", "y:!(!(!([d]", "y:(!(!(!(");
        laws(10, "y:!!!!!!d=[", "y:((((((d=[", "y:!(!(!(d=[d]");
        String[] six = {"[[[[[[", "((((((", "!!!!!!", "!(!(!(", "(!(!(!", "((((([", "!!!!!["};
        for (String start : six) {
            goesOn(1, "y:" + start, "0123456789dwmno");
        }
        goesOn(1, "y:!!!!!!d=", "0123456789dwmno");
        goesOn(1, "y:((((((d=", "0123456789dwmno");
        goesOn(1, "y:[[[[[[d+", "0123456789dwmno");
        goesOn(1, "y:[[[[[", ATOMS);
        goesOn(1, "y:(((((", UNITS);
        goesOn(1, "y:!!!!!", UNITS);
    }

    /** Wherever a SUM or a UNIT may stand, six may stand within one another; what is closed counts no more. */
    private void withinElsewhere() {
        says("At most six of ( [ ! within one another.");
        String[] sums = {"d+", "d-", "d*", "d/", "[d]+", "[[[[[[d]]]]]]*", "d=", "[d]=", "[[[[[[d]]]]]]<", "d=d?", "!d=d?",
            "((((((d=d))))))?", "!!!!!!d=d?", "d=d&d>", "d=d|d>", "!!!!!!d=d&d>", "!d=d|", "d=d&", "!!!!!!d=d&", "((((((d=d))))))|",
            "!((!d=[d]))&", "d;y:", "[[[[[[d]]]]]];y:", "((((((d=d))))))?d;y:", "!!!!!!d=d?d;y:"};
        for (String before : sums) {
            String start = "y:" + before;
            laws(start.length() + 6, start + "[[[[[[[", start + "[[[[[[[d]]]]]]]");
            goesOn(1, start + "[[[[[", ATOMS);
            goesOn(1, start + "[[[[[[d", "+-*/]");
        }
        String[] units = {"", "d=d&", "d=d|", "!d=d&", "!!!!!!d=d&", "!!!!!!d=d|", "((((((d=d))))))&", "((((((d=d))))))|", "d=d?d;y:"};
        for (String before : units) {
            String start = "y:" + before;
            laws(start.length() + 6, start + "(((((((", start + "!!!!!!!", start + "(!(!(!(", start + "((((((!", start + "!!!!!!(");
            laws(NONE, start + "((((((d=d))))))?d", start + "!!!!!!d=d?d", start + "!(!(!(d=d)))?d", start + "((((([d]=d)))))?d");
        }
        // within a ( what was closed again counts no more either
        laws(NONE, "y:(((((!d=d&(d=d)|[d]=[d])))))?d", "y:(((((d=[d]&!d=d)))))?d");
        laws(13, "y:(((((!d=d&((", "y:(((((!d=d|!!", "y:(((((!d=d|([");
        laws(8, "y:(((((!(", "y:(((((![", "y:(((((!!");
    }

    private void numbersOfLaw() {
        says("a number (1 to 4 digits)");
        String[] numbers = {"0", "9", "10", "99", "100", "999", "1000", "9999", "0000", "0009", "0099", "09"};
        for (String number : numbers) {
            int value = Integer.parseInt(number);
            String law = "y:" + number + "=" + value / 10 + "*10+" + value % 10 + "?7";
            BorrowedBeat x = townWithLaw("p", law);
            due("damp(0) by " + law, x.damp(0), 7);
        }
    }

    private void blanks() {
        says("Blanks (32) may stand between all signs of both, not within numbers.");
        towns(NONE, " p b 5 d 1 k 2 f 1 h 10 ; p ; m b 9 ", "   p", "p   ", "p  ;  p", "m ; p");
        laws(NONE, " y : d + 1 = 2 * [ 3 - w ] & ! ( m < n | o > 10 ) ? 1234 / 5 ; y : 1 ", "y:1   ", "   y:1", "y   :   1");
        BorrowedBeat x = Check.town(" p b 5 d 1 k 2 f 1 h 10 ; p ; m b 9 ");
        int[] due = {5, 5, 1, 2, 1, 10, 0};
        for (int what = 0; what < due.length; what++) {
            due("player(0, " + what + ")", player(x, 0, what), due[what]);
        }
        due("METRONOME", x.count(1), 9);
        towns(4, "pb1 2", "pd0 1", "ph1 0", "pk0 3", "pf0 1;p", "mb1 0;p");
        towns(6, "pb1   2");
        laws(4, "y:1 2", "y:1 d", "y:d d");
        laws(6, "y:123 4", "y:1=1 1?1");
        laws(8, "y:1=1?1 1");
        int[] others = {1, 9, 10, 13, 31, 34, 127, 160, 255};
        for (int sign : others) {
            towns(1, "p" + (char) sign + ";p");
            laws(2, "y:" + (char) sign + "1");
        }
    }

    private void firstByte() {
        says("the first byte at which no such TEXT can go on");
        towns(0, "x;pb0", "bp", ";p");
        towns(1, "pxb0;q", "p,p", "pp");
        towns(2, "pb0b0;m;m", "p;;", "p;b5");
        laws(0, "p", "xy:1");
        laws(3, "y:1)2)", "y:dd", "y:1(");
        laws(5, "y:d+d]]", "y:d+1y");
        says("(the length, if it ends too early");
        due("a byte of 0 is none", new BorrowedBeat().fault(0), 0);
        BorrowedBeat x = new BorrowedBeat();
        x.feed('p', 'x', 0, 0, 0);
        due("bytes are counted without those of 0", x.fault(0), 1);
    }

    private void endsTooEarly() {
        says("(the length, if it ends too early");
        beginnings(0, "pf1b5;mb7;ph3", 1, 11, 13);
        beginnings(0, " p f 1 ; m b 7 ; p h 1 ", 2, 3, 18, 19, 22, 23);
        beginnings(0, "pb50d1;ph10;mb40", 1, 3, 4, 6, 8, 10, 11, 13, 15, 16);
        beginnings(1, "y:!([d+1]*2=w/3)&o<5|m>n?10-d;y:7", 26, 27, 29, 33);
        beginnings(1, " y : 1 < 2 ? 3 ; y : [ 4 ] ", 6, 7, 14, 15, 26, 27);
    }

    /** All beginnings of a TEXT end too early, but those that are so long. */
    private void beginnings(int sort, String text, int... whole) {
        for (int n = 0; n <= text.length(); n++) {
            int due = n;
            for (int such : whole) {
                due = such == n ? NONE : due;
            }
            String start = text.substring(0, n);
            due("fault(" + sort + ") of '" + start + "'", Check.fault(sort, start), due);
        }
    }

    private void text() {
        says("The TAPE (empty then) is the TOWN");
        BorrowedBeat x = new BorrowedBeat();
        due("a TOWN", Check.give(x, 0, "p;p"), 2);
        due("TAPE", x.count(3), 0);
        due("an empty TAPE is no TOWN", x.text(0), NONE);
        due("an empty TAPE is no LAW", x.text(1), NONE);
        due("TOWN still", x.count(0), 2);
        says("a LAW: its number");
        due("a LAW", Check.give(x, 1, "y:1"), 0);
        due("TAPE behind a LAW", x.count(3), 0);
        says("none at first: 0");
        due("no LAW holds yet", x.count(5), NONE);
        due("DAMP", x.damp(0), 0);
        says("LATE, MARKS, ROLL, IMAGE of another one are gone; LAWS, which holds, BARS, ECHO, LIMIT stay");
        x.set(0, 0);
        x.set(1, 30);
        x.set(2, 3);
        x.set(3, 999);
        x.tell(0, 2, 50);
        x.tell(1, 0, 0);
        x.tell(1, 1, 10);
        x.mark(29, true);
        for (int i = 0; i < 20; i++) {
            x.roll(0, 29, 9999);
        }
        letDaysGoBy(x, 61);
        x.image();
        due("as many PLAYERS", Check.give(x, 0, "p;p"), 2);
        int[] counts = {2, 60, 1, 0, 0, 0, 30, 3, 999, 0, 0, 0};
        for (int what = 0; what < counts.length; what++) {
            due("count(" + what + ")", x.count(what), counts[what]);
        }
        due("LATE", player(x, 0, 6), 0);
        due("FOLLOWS", player(x, 1, 4), NONE);
        due("HOW much", player(x, 1, 5), 5);
        due("BACK", x.back(), NONE);
        due("UNDO", x.undo(), NONE);
        due("ROLL", x.fits(0), 64 | 2);
        due("a first one of the ROLL", x.roll(0, 0, 0), 1);
        due("DAMP by the LAW that holds", x.damp(999), 1);
    }

    private void fourLaws() {
        says("NONE: a FAULT, no such sort, there are four LAWS.");
        BorrowedBeat x = new BorrowedBeat();
        for (int i = 0; i < 4; i++) {
            due("LAWS", x.count(2), i);
            due("LAW " + i, Check.give(x, 1, "y:" + (i + 2)), i);
        }
        due("a fifth", Check.give(x, 1, "y:9"), NONE);
        due("its TAPE", x.count(3), 3);
        due("no FAULT", x.fault(1), NONE);
        due("four", x.count(2), 4);
        due("a TOWN all the same", Check.give(x, 0, "p"), 1);
        due("a fifth behind a TOWN", Check.give(x, 1, "y:9"), NONE);
        due("four still", x.count(2), 4);
        for (int i = 3; i >= 0; i--) {
            due("LAW " + i + " holds", x.set(0, i), true);
            due("DAMP by LAW " + i, x.damp(0), i + 2);
        }
        due("none holds", x.set(0, NONE), true);
        due("DAMP by none", x.damp(0), 0);
        due("a FAULT of a TOWN", Check.give(x, 0, "pb0"), NONE);
        due("a FAULT of a LAW", Check.give(new BorrowedBeat(), 1, "y:"), NONE);
        due("a LAW as a TOWN", Check.give(x, 0, "y:1"), NONE);
        due("a TOWN as a LAW", Check.give(new BorrowedBeat(), 1, "p"), NONE);
    }

    private void sorts() {
        says("The FAULT of the TAPE as a TOWN (0), a LAW (1). NONE: none. -2: no such sort.");
        BorrowedBeat x = new BorrowedBeat();
        Check.feed(x, "p");
        int[] none = {-1, 2, 3, -2, Integer.MAX_VALUE, Integer.MIN_VALUE};
        for (int sort : none) {
            due("fault(" + sort + ")", x.fault(sort), -2);
            due("text(" + sort + ")", x.text(sort), NONE);
        }
        due("TAPE", x.count(3), 1);
        due("none", x.fault(0), NONE);
        due("as a LAW", x.fault(1), 0);
    }

    /** TEXTS of 160 bytes. */
    private void fullTape() {
        says("NONE: more than 160.");
        BorrowedBeat x = new BorrowedBeat();
        due("a TOWN and blanks", Check.give(x, 0, times(" ", 79) + "p" + times(" ", 80)), 1);
        Check.feed(x, times(" ", 160));
        due("blanks", x.fault(0), 160);
        due("blanks are no LAW", x.fault(1), 160);
        x.end(0);
        Check.feed(x, times(" ", 159) + "p");
        due("p at the end", x.fault(0), NONE);
        due("p at the end is no LAW", x.fault(1), 159);
        x.end(0);
        Check.feed(x, times(" ", 159) + "y");
        due("y at the end", x.fault(1), 160);
        due("signs", Check.give(x, 1, "y:" + times("d-", 78) + "0+"), NONE);
        due("160", x.fault(1), 160);
        due("159 of them", Check.give(x, 1, "y:8" + times("-d+d", 39)), 0);
        due("CLAUSES", Check.give(x, 1, times("y:1=0?1;", 19) + "y:00006"), NONE);
        due("the FAULT in the last one", x.fault(1), 158);
        due("CLAUSES to the end", Check.give(x, 1, times("y:1=0?1;", 19) + "y:0007  "), 1);
        due("many short CLAUSES", Check.give(x, 1, times("y:6;", 39) + "y:6 "), 2);
        due("many UNITS", Check.give(x, 1, "y:" + times("d=d|", 38) + "1=2?9 "), 3);
        Check.give(x, 0, "p");
        int[] damps = {8, 7, 6, 9};
        for (int i = 0; i < 4; i++) {
            x.set(0, i);
            due("DAMP by LAW " + i, x.damp(1), damps[i]);
        }
    }
}
