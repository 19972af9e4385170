import java.util.Arrays;
import java.util.NoSuchElementException;

/** An orchestra of borrowed seconds; the document's promises say what each method answers. */
public final class BorrowedBeat {
    public static final int NONE = -1;
    public static final int HIDDEN = -1000000;

    private static final int NO_SUCH_SORT = -2;
    private static final int MOST_PLAYERS = 6;
    private static final int MOST_BARS = 30;
    private static final int MOST_LAWS = 4;
    private static final int MOST_ECHO = 3;
    private static final int MOST_LIMIT = 999;
    private static final int MOST_HOW = 10;
    private static final int MOST_LATE = 50;
    private static final int MOST_TIME = 9999;
    private static final int MOST_TOLD = 20;
    private static final int TOLD_ROW = 3;
    private static final int MOST_BEAT = 199;
    private static final int MOST_DAMP = 9;
    private static final int MOST_CHANGE = 99;
    private static final int LAST_DAY = 999;
    private static final int WEEK_DAYS = 6;
    private static final int ODDS_DAYS = 6;
    private static final int SETTLE_BARS = 200;
    private static final int NOBODY_BIT = 64;
    private static final int USUAL_BEAT = 60;

    /** Above every SPREAD and TIME that there can be. */
    private static final int ENDLESS = 1000000000;

    private final Tape tape = new Tape();
    private final TownReader townReader = new TownReader(tape);
    private final LawReader lawReader = new LawReader(tape);
    private final Town town = new Town();
    private final Law[] laws = new Law[MOST_LAWS];
    private final Diary diary = new Diary();
    private final int[] told = new int[MOST_TOLD * TOLD_ROW];
    private final Score score = new Score();
    private final Score trial = new Score();
    private final Play play = new Play();
    private final MarkSearch markSearch = new MarkSearch();
    private final WeekSearch weekSearch = new WeekSearch(play, trial);
    private int limit = 20;
    private int lawCount;
    private int holding = NONE;
    private int toldCount;

    public BorrowedBeat() {
    }

    // The TAPE and its TEXTS

    public int feed(int a, int b, int c, int d, int e) {
        int more = Tape.bytesIn(a) + Tape.bytesIn(b) + Tape.bytesIn(c) + Tape.bytesIn(d) + Tape.bytesIn(e);
        if (tape.length + more > Tape.MOST) {
            return NONE;
        }
        tape.push(a);
        tape.push(b);
        tape.push(c);
        tape.push(d);
        tape.push(e);
        return tape.length;
    }

    public boolean end(int n) {
        if (n < 0 || n > tape.length) {
            return false;
        }
        tape.length = n;
        return true;
    }

    public int fault(int sort) {
        if (sort == 0) {
            return townReader.read();
        }
        if (sort == 1) {
            return lawReader.read();
        }
        return NO_SUCH_SORT;
    }

    public int text(int sort) {
        if (sort == 0 && townReader.read() == NONE) {
            openTown();
            return town.players;
        }
        if (sort == 1 && lawCount < MOST_LAWS && lawReader.read() == NONE) {
            laws[lawCount] = lawReader.toLaw();
            lawCount++;
            tape.length = 0;
            return lawCount - 1;
        }
        return NONE;
    }

    private void openTown() {
        town.copyFrom(townReader.draft);
        score.open(town);
        diary.open();
        toldCount = 0;
        for (int i = 0; i < MOST_LAWS; i++) {
            Law law = laws[i];
            if (law != null) {
                law.forget();
            }
        }
        weekSearch.known = false;
        tape.length = 0;
    }

    // What is told by hand

    public int player(int player, int what) throws NoSuchElementException {
        if (!isPlayer(player)) {
            throw new NoSuchElementException("no such PLAYER");
        }
        switch (what) {
            case 0:
                return score.beats[player];
            case 1:
                return town.beats[player];
            case 2:
                return town.drifts[player];
            case 3:
                return town.kinds[player];
            case 4:
                return score.follows[player];
            case 5:
                return score.hows[player];
            case 6:
                return score.lates[player];
            default:
                throw new NoSuchElementException("no such thing of a PLAYER");
        }
    }

    public boolean set(int what, int v) {
        int least = what == 0 ? NONE : what == 1 ? 1 : 0;
        if (v < least || v > mostOf(what)) {
            return false;
        }
        weekSearch.known = false;
        switch (what) {
            case 0:
                holding = v;
                return true;
            case 1:
                score.bars = v;
                return true;
            case 2:
                score.echo = v;
                return true;
            default:
                limit = v;
                return true;
        }
    }

    /** The greatest value that may be set; below every value for what can't be set. */
    private int mostOf(int what) {
        switch (what) {
            case 0:
                return lawCount - 1;
            case 1:
                return MOST_BARS;
            case 2:
                return MOST_ECHO;
            case 3:
                return MOST_LIMIT;
            default:
                return HIDDEN;
        }
    }

    public boolean tell(int player, int what, int v) {
        if (!isPlayer(player) || !mayTell(player, what, v)) {
            return false;
        }
        weekSearch.known = false;
        switch (what) {
            case 0:
                score.follows[player] = v;
                return true;
            case 1:
                score.hows[player] = v;
                return true;
            default:
                score.lates[player] = v;
                return true;
        }
    }

    private boolean mayTell(int player, int what, int v) {
        switch (what) {
            case 0:
                return v == NONE || v != player && isPlayer(v);
            case 1:
                return v >= 0 && v <= MOST_HOW;
            case 2:
                return v >= 0 && v <= MOST_LATE;
            default:
                return false;
        }
    }

    public boolean mark(int bar, boolean is) {
        if (town.players == 0 || bar < 0 || bar >= MOST_BARS || score.isMarked(bar) == is) {
            return false;
        }
        score.marked ^= 1 << bar;
        weekSearch.known = false;
        return true;
    }

    private boolean isPlayer(int player) {
        return player >= 0 && player < town.players;
    }

    private boolean isBar(int bar) {
        return town.players > 0 && bar >= 0 && bar < score.bars;
    }

    /** Whether there is a TOWN to answer one of two questions of. */
    private boolean isOneOfTwo(int what) {
        return town.players > 0 && (what == 0 || what == 1);
    }

    // DAYS

    public int damp(int day) {
        if (town.players == 0 || day < 0 || day > LAST_DAY) {
            return NONE;
        }
        return wetness(day);
    }

    /** DAMP of a DAY. */
    private int wetness(int day) {
        Law law = holding >= 0 && holding < MOST_LAWS ? laws[holding] : null;
        return law == null ? 0 : law.wetness(day, town);
    }

    public int day(int player) {
        if (town.players == 0 || player != NONE && !isPlayer(player) || diary.today > LAST_DAY) {
            return NONE;
        }
        int wet = wetness(diary.today);
        diary.keep(score.beats);
        town.goThroughDay(score.beats, player, wet);
        diary.today++;
        weekSearch.known = false;
        return diary.today;
    }

    public int undo() {
        if (diary.undoable == 0) {
            return NONE;
        }
        diary.takeBack(score.beats);
        weekSearch.known = false;
        return diary.today;
    }

    public int image() {
        if (town.players == 0) {
            return NONE;
        }
        diary.takeImage(score.beats);
        return diary.today;
    }

    public int back() {
        if (!diary.hasImage) {
            return NONE;
        }
        diary.comeBack(score.beats);
        weekSearch.known = false;
        return diary.today;
    }

    // The PIECE

    public int time(int player, int bar, int what) {
        if (!isPlayer(player) || !isBar(bar)) {
            return NONE;
        }
        play.perform(score, ENDLESS);
        switch (what) {
            case 0:
                return play.aheadOfWaiting(player, bar);
            case 1:
                return play.behindWaiting(player, bar);
            case 2:
                return play.beatIn(player, bar);
            default:
                return NONE;
        }
    }

    public int spread(int bar) {
        if (!isBar(bar)) {
            return NONE;
        }
        play.perform(score, ENDLESS);
        return play.spreads[bar];
    }

    public int worst(int what) {
        if (!isOneOfTwo(what)) {
            return NONE;
        }
        int most = play.perform(score, ENDLESS);
        return what == 0 ? most : play.firstSpreadAbove(most - 1);
    }

    public int parts() {
        if (town.players == 0) {
            return NONE;
        }
        play.perform(score, ENDLESS);
        return play.firstSpreadAbove(limit);
    }

    public int last(int bar) {
        if (!isBar(bar)) {
            return NONE;
        }
        play.perform(score, ENDLESS);
        return play.lastIn(bar);
    }

    public int settle(int what) {
        if (!isOneOfTwo(what) || !play.settles(score)) {
            return NONE;
        }
        return what == 0 ? play.settledFrom : play.settledLength;
    }

    public int place(int bar, int i) {
        if (!isBar(bar) || !isPlayer(i)) {
            return NONE;
        }
        play.perform(score, ENDLESS);
        return play.inPlace(bar, i);
    }

    public int overtakes(int one, int other) {
        if (!isPlayer(one) || !isPlayer(other) || one == other) {
            return NONE;
        }
        play.perform(score, ENDLESS);
        return play.turns(one, other);
    }

    public int middle() {
        if (town.players == 0) {
            return NONE;
        }
        play.perform(score, ENDLESS);
        return play.innermost();
    }

    public int ends(int what) {
        if (!isOneOfTwo(what)) {
            return NONE;
        }
        play.perform(score, ENDLESS);
        int bar = score.bars - 1;
        int greatest = play.greatestIn(bar);
        return what == 0 ? greatest : greatest - play.spreads[bar];
    }

    public int stray(int player, int by) {
        if (!isPlayer(player) || by < 1 || by > MOST_CHANGE) {
            return NONE;
        }
        play.perform(score, ENDLESS);
        return play.firstChange(player, by);
    }

    // Who FOLLOWS whom

    public int ring(int player) {
        if (!isPlayer(player)) {
            return NONE;
        }
        int bits = 0;
        int one = score.aheadOf(player, MOST_PLAYERS);
        for (int i = 0; i < MOST_PLAYERS && isPlayer(one); i++) {
            bits |= 1 << one;
            one = score.aheadOf(one, 1);
        }
        return bits;
    }

    public int head(int player) {
        if (!isPlayer(player) || score.aheadOf(player, MOST_PLAYERS) != NONE) {
            return NONE;
        }
        int one = player;
        for (int i = 0; i < MOST_PLAYERS && score.aheadOf(one, 1) != NONE; i++) {
            one = score.aheadOf(one, 1);
        }
        return one;
    }

    public int leader(int player, int what) {
        if (!isPlayer(player) || what < 0 || what > 1) {
            return HIDDEN;
        }
        trial.copyFrom(score);
        int least = ENDLESS;
        int best = NONE;
        for (int one = NONE; one < town.players; one++) {
            trial.follows[player] = one;
            int most = one == player ? least : play.perform(trial, least);
            if (most < least) {
                least = most;
                best = one;
            }
        }
        return what == 0 ? best : least;
    }

    public int deaf(int player) {
        if (!isPlayer(player)) {
            return NONE;
        }
        trial.copyFrom(score);
        trial.follows[player] = NONE;
        return play.perform(trial, ENDLESS);
    }

    public int roll(int player, int bar, int time) {
        boolean such = isPlayer(player) && bar >= 0 && bar < MOST_BARS && time >= 0 && time <= MOST_TIME;
        if (!such || toldCount >= MOST_TOLD) {
            return NONE;
        }
        int row = toldCount * TOLD_ROW;
        told[row] = player;
        told[row + 1] = bar;
        told[row + 2] = time;
        toldCount++;
        return toldCount;
    }

    public int fits(int player) {
        if (!isPlayer(player)) {
            return NONE;
        }
        trial.copyFrom(score);
        int bits = 0;
        for (int one = NONE; one < town.players; one++) {
            trial.follows[player] = one;
            if (one != player && isToldSo()) {
                bits |= one == NONE ? NOBODY_BIT : 1 << one;
            }
        }
        return bits;
    }

    /** Whether all of the ROLL is so as the trial is played. */
    private boolean isToldSo() {
        play.perform(trial, ENDLESS);
        for (int i = 0; i < toldCount && i < MOST_TOLD; i++) {
            int row = i * TOLD_ROW;
            int bar = told[row + 1];
            if (bar >= trial.bars || play.behindWaiting(told[row], bar) != told[row + 2]) {
                return false;
            }
        }
        return true;
    }

    // What had best be told

    public int echoes(int what) {
        if (!isOneOfTwo(what)) {
            return NONE;
        }
        trial.copyFrom(score);
        int least = ENDLESS;
        int best = 0;
        for (int echo = 0; echo <= MOST_ECHO; echo++) {
            trial.echo = echo;
            int most = play.perform(trial, least);
            if (most < least) {
                least = most;
                best = echo;
            }
        }
        return what == 0 ? best : least;
    }

    public int tune(int player, int what) {
        if (!isPlayer(player) || what < 0 || what > 1) {
            return NONE;
        }
        trial.copyFrom(score);
        int own = score.hows[player];
        for (int step = 0; step <= 2 * MOST_HOW; step++) {
            int how = step % 2 == 0 ? own + step / 2 : own - (step + 1) / 2;
            if (how >= 0 && how <= MOST_HOW) {
                trial.hows[player] = how;
                int most = play.perform(trial, limit + 1);
                if (most <= limit) {
                    return what == 0 ? how : most;
                }
            }
        }
        return NONE;
    }

    public int paid(int player) {
        if (!isPlayer(player)) {
            return NONE;
        }
        trial.copyFrom(score);
        int bar = trial.bars - 1;
        for (int late = 0; late <= MOST_LATE; late++) {
            trial.lates[player] = late;
            play.perform(trial, ENDLESS);
            if (play.isAloneLast(player, bar)) {
                return late;
            }
        }
        return NONE;
    }

    public int marks(int what) {
        if (!isOneOfTwo(what)) {
            return NONE;
        }
        play.perform(score, ENDLESS);
        if (!markSearch.find(play, score, limit)) {
            return NONE;
        }
        return what == 0 ? markSearch.fewest : markSearch.bits;
    }

    // DAYS to come

    public int week(int what) {
        if (!isOneOfTwo(what) || diary.today + WEEK_DAYS > LAST_DAY + 1) {
            return NONE;
        }
        if (!weekSearch.known) {
            for (int i = 0; i < WEEK_DAYS; i++) {
                weekSearch.wets[i] = wetness(diary.today + i);
            }
            weekSearch.find(town, score);
        }
        return what == 0 ? weekSearch.row : weekSearch.least;
    }

    public int gift(int what) {
        if (!isOneOfTwo(what) || diary.today > LAST_DAY) {
            return NONE;
        }
        int wet = wetness(diary.today);
        trial.copyFrom(score);
        int least = ENDLESS;
        int best = 0;
        for (int one = 0; one < town.players; one++) {
            System.arraycopy(score.beats, 0, trial.beats, 0, MOST_PLAYERS);
            town.goThroughDay(trial.beats, one, wet);
            int most = play.perform(trial, least);
            if (most < least) {
                least = most;
                best = one;
            }
        }
        return what == 0 ? best : least;
    }

    /** A BEAT hangs on the sum of the DAMPS alone, as DRIFT goes one way: rows of one sum are played once. */
    public int odds(int player, int n) {
        if (!isPlayer(player) || n < 1 || n > ODDS_DAYS) {
            return NONE;
        }
        trial.copyFrom(score);
        int rows = 0;
        for (int sum = 0; sum <= 2 * n; sum++) {
            for (int one = 0; one < town.players; one++) {
                trial.beats[one] = town.drifted(one, score.beats[one], n, sum);
            }
            play.perform(trial, ENDLESS);
            if (play.lastIn(trial.bars - 1) == player) {
                rows += rowsWithSum(n, sum);
            }
        }
        return rows;
    }

    /** How many rows of so many of 0, 1, 2 have this sum. */
    private static int rowsWithSum(int length, int sum) {
        if (sum < 0 || sum > 2 * length) {
            return 0;
        }
        if (length <= 0) {
            return 1;
        }
        return rowsWithSum(length - 1, sum) + rowsWithSum(length - 1, sum - 1) + rowsWithSum(length - 1, sum - 2);
    }

    public int count(int what) {
        switch (what) {
            case 0:
                return town.players;
            case 1:
                return town.metronome;
            case 2:
                return lawCount;
            case 3:
                return tape.length;
            case 4:
                return diary.today;
            case 5:
                return holding;
            case 6:
                return score.bars;
            case 7:
                return score.echo;
            case 8:
                return limit;
            case 9:
                return score.marked;
            case 10:
                return toldCount;
            case 11:
                return diary.undoable;
            default:
                return HIDDEN;
        }
    }

    private static int held(int value, int least, int most) {
        return value < least ? least : value > most ? most : value;
    }

    /** The bytes fed so far. */
    private static final class Tape {
        static final int MOST = 160;

        final int[] bytes = new int[MOST];
        int length;

        static int bytesIn(int word) {
            int count = 0;
            for (int shift = 24; shift >= 0; shift -= 8) {
                if ((word >>> shift & 255) != 0) {
                    count++;
                }
            }
            return count;
        }

        void push(int word) {
            for (int shift = 24; shift >= 0; shift -= 8) {
                int sign = word >>> shift & 255;
                if (sign != 0 && length < MOST) {
                    bytes[length] = sign;
                    length++;
                }
            }
        }
    }

    /** What both kinds of TEXT have in common: CLAUSES with ; between, signs with blanks between. */
    private abstract static class Reader {
        static final int END = 0;

        final Tape tape;
        int at;
        int faultAt;

        Reader(Tape tape) {
            this.tape = tape;
        }

        abstract void clear();

        abstract boolean readClause();

        abstract boolean isWhole();

        /** The FAULT, or NONE. */
        final int read() {
            at = 0;
            faultAt = NONE;
            clear();
            boolean more = true;
            for (int i = 0; more && i <= Tape.MOST; i++) {
                more = readClause() && nextClause();
            }
            if (faultAt == NONE && !isWhole()) {
                faultAt = tape.length;
            }
            return faultAt;
        }

        private boolean nextClause() {
            if (peek() == END) {
                return false;
            }
            return take(';') || fail();
        }

        /** The sign that comes next, behind blanks; END at the end. */
        final int peek() {
            while (at < tape.length && at < Tape.MOST && tape.bytes[at] == ' ') {
                at++;
            }
            return at < tape.length && at < Tape.MOST ? tape.bytes[at] : END;
        }

        final boolean take(int sign) {
            if (peek() != sign) {
                return false;
            }
            at++;
            return true;
        }

        /** The sign that was looked at last is the FAULT. */
        final boolean fail() {
            faultAt = at;
            return false;
        }

        /** The number that comes next, or NONE behind a FAULT. */
        final int readNumber(int digits, int least, int most) {
            if (!isDigit(peek())) {
                fail();
                return NONE;
            }
            int value = 0;
            int start = at;
            for (; at < tape.length && at < Tape.MOST && isDigit(tape.bytes[at]); at++) {
                if (at - start >= digits) {
                    fail();
                    return NONE;
                }
                value = value * 10 + tape.bytes[at] - '0';
            }
            if (value < least || value > most) {
                faultAt = at - 1;
                return NONE;
            }
            return value;
        }

        static boolean isDigit(int sign) {
            return sign >= '0' && sign <= '9';
        }
    }

    private static final class TownReader extends Reader {
        private static final int BEAT = 0;
        private static final int DRIFT = 1;
        private static final int KIND = 2;
        private static final int FOLLOWS = 3;
        private static final int HOW = 4;
        private static final int LETTERS = 5;
        private static final int[] LEAST = {1, 0, 0, 0, 0};
        private static final int[] MOST = {99, 9, 3, 5, 10};

        final Town draft = new Town();
        private boolean hasMetronome;

        TownReader(Tape tape) {
            super(tape);
        }

        void clear() {
            draft.clear();
            hasMetronome = false;
        }

        boolean readClause() {
            int sign = peek();
            if (sign == 'p' && draft.players < MOST_PLAYERS) {
                at++;
                draft.addPlayer();
                return readItems(true);
            }
            if (sign == 'm' && !hasMetronome) {
                at++;
                hasMetronome = true;
                return readItems(false);
            }
            return fail();
        }

        /** Ends at a sign that is no ITEM's letter: whoever called looks what it is. */
        private boolean readItems(boolean ofPlayer) {
            int seen = 0;
            for (int i = 0; i <= LETTERS; i++) {
                int item = itemOf(peek());
                if (item == NONE) {
                    return true;
                }
                if (!ofPlayer && item != BEAT || (seen >> item & 1) != 0) {
                    return fail();
                }
                seen |= 1 << item;
                at++;
                int number = readNumber(2, LEAST[item], MOST[item]);
                if (number == NONE) {
                    return false;
                }
                keep(ofPlayer, item, number);
            }
            return fail();
        }

        private static int itemOf(int sign) {
            switch (sign) {
                case 'b':
                    return BEAT;
                case 'd':
                    return DRIFT;
                case 'k':
                    return KIND;
                case 'f':
                    return FOLLOWS;
                case 'h':
                    return HOW;
                default:
                    return NONE;
            }
        }

        private void keep(boolean ofPlayer, int item, int number) {
            int player = draft.players - 1;
            if (!ofPlayer) {
                draft.metronome = number;
            } else if (player >= 0) {
                draft.put(player, item, number);
            }
        }

        boolean isWhole() {
            for (int i = 0; i < draft.players; i++) {
                if (draft.follows[i] == i || draft.follows[i] >= draft.players) {
                    return false;
                }
            }
            return draft.players > 0;
        }
    }

    /** Turns a LAW into signs in the order in which they are worked out: numbers as they are, others below 0. */
    private static final class LawReader extends Reader {
        private static final int MOST_WITHIN = 6;

        private final int[] code = new int[Tape.MOST];
        private int length;

        LawReader(Tape tape) {
            super(tape);
        }

        void clear() {
            length = 0;
        }

        boolean isWhole() {
            return true;
        }

        Law toLaw() {
            return new Law(Arrays.copyOf(code, length));
        }

        private boolean emit(int sign) {
            if (length < Tape.MOST) {
                code[length] = sign;
                length++;
            }
            return true;
        }

        boolean readClause() {
            if (!take('y') || !take(':')) {
                return fail();
            }
            int sign = peek();
            if (sign == '!' || sign == '(') {
                return condition(0) && sumBehindCondition();
            }
            if (!sum(0)) {
                return false;
            }
            if (!isComparison(peek())) {
                return emit(-';');
            }
            return comparison(0) && moreUnits(0) && sumBehindCondition();
        }

        private boolean sumBehindCondition() {
            if (!take('?')) {
                return fail();
            }
            return emit(-'?') && sum(0) && emit(-';');
        }

        private boolean condition(int within) {
            return unit(within) && moreUnits(within);
        }

        /** All that may follow the first UNIT of a CONDITION; | waits until the TRUTH behind it is whole. */
        private boolean moreUnits(int within) {
            boolean waits = false;
            for (int i = 0; i <= Tape.MOST; i++) {
                int sign = peek();
                if (sign != '|' && sign != '&') {
                    return !waits || emit(-'|');
                }
                boolean isOr = sign == '|';
                if (isOr && waits) {
                    emit(-'|');
                }
                waits = isOr || waits;
                at++;
                if (!unit(within)) {
                    return false;
                }
                if (!isOr) {
                    emit(-'&');
                }
            }
            return fail();
        }

        private boolean unit(int within) {
            int sign = peek();
            if (sign != '!' && sign != '(') {
                return sum(within) && comparison(within);
            }
            if (within >= MOST_WITHIN) {
                return fail();
            }
            at++;
            if (sign == '!') {
                return negated(within + 1);
            }
            return condition(within + 1) && (take(')') || fail());
        }

        private boolean negated(int within) {
            return unit(within) && emit(-'!');
        }

        private boolean comparison(int within) {
            int sign = peek();
            if (!isComparison(sign)) {
                return fail();
            }
            at++;
            return sum(within) && emit(-sign);
        }

        private static boolean isComparison(int sign) {
            return sign == '=' || sign == '<' || sign == '>';
        }

        /** A + or - waits until the TERM behind it is whole. */
        private boolean sum(int within) {
            int waiting = END;
            if (!atom(within)) {
                return false;
            }
            for (int i = 0; i <= Tape.MOST; i++) {
                int sign = peek();
                boolean adds = sign == '+' || sign == '-';
                if (!adds && sign != '*' && sign != '/') {
                    return waiting == END || emit(-waiting);
                }
                if (adds && waiting != END) {
                    emit(-waiting);
                }
                waiting = adds ? sign : waiting;
                at++;
                if (!atom(within)) {
                    return false;
                }
                if (!adds) {
                    emit(-sign);
                }
            }
            return fail();
        }

        private boolean atom(int within) {
            int sign = peek();
            if (isDigit(sign)) {
                int number = readNumber(4, 0, 9999);
                return number != NONE && emit(number);
            }
            if (sign == 'd' || sign == 'w' || sign == 'm' || sign == 'n' || sign == 'o') {
                at++;
                return emit(-sign);
            }
            if (sign != '[' || within >= MOST_WITHIN) {
                return fail();
            }
            at++;
            return sum(within + 1) && (take(']') || fail());
        }
    }

    /** A LAW, and its DAMPS by DAYS as far as they hang on those ahead and are known. */
    private static final class Law {
        private static final int MOST_NUMBER = 1000000;

        private final int[] code;
        private final int[] stack;
        private final int[] kept;
        private int top;
        private int known;

        Law(int[] code) {
            boolean looksBack = false;
            for (int i = 0; i < code.length; i++) {
                if (code[i] == -'o') {
                    looksBack = true;
                }
            }
            this.code = code;
            this.stack = new int[code.length];
            this.kept = new int[looksBack ? LAST_DAY + 1 : 0];
        }

        /** The METRONOME or the PLAYERS are others. */
        void forget() {
            known = 0;
        }

        int wetness(int day, Town town) {
            if (day < 0 || day >= kept.length) {
                return held(worth(day, 0, town), 0, MOST_DAMP);
            }
            for (; known <= day && known < kept.length; known++) {
                int before = known > 0 ? kept[known - 1] : 0;
                kept[known] = held(worth(known, before, town), 0, MOST_DAMP);
            }
            return kept[day];
        }

        private int worth(int day, int before, Town town) {
            top = 0;
            boolean skips = false;
            for (int i = 0; i < code.length; i++) {
                int sign = code[i];
                if (skips) {
                    skips = sign != -';';
                } else if (sign >= 0) {
                    push(sign);
                } else if (sign == -';') {
                    return pop();
                } else if (sign == -'?') {
                    skips = pop() == 0;
                } else {
                    work(-sign, day, before, town);
                }
            }
            return 0;
        }

        private void work(int sign, int day, int before, Town town) {
            switch (sign) {
                case 'd':
                    push(day);
                    break;
                case 'w':
                    push(day % 7);
                    break;
                case 'm':
                    push(town.metronome);
                    break;
                case 'n':
                    push(town.players);
                    break;
                case 'o':
                    push(before);
                    break;
                case '!':
                    push(pop() == 0 ? 1 : 0);
                    break;
                default:
                    int right = pop();
                    push(joined(sign, pop(), right));
            }
        }

        private static int joined(int sign, int left, int right) {
            switch (sign) {
                case '+':
                    return held(left + right, -MOST_NUMBER, MOST_NUMBER);
                case '-':
                    return held(left - right, -MOST_NUMBER, MOST_NUMBER);
                case '*':
                    long product = (long) left * right;
                    return (int) Math.max(-MOST_NUMBER, Math.min(MOST_NUMBER, product));
                case '/':
                    return right == 0 ? 0 : left / right;
                case '=':
                    return left == right ? 1 : 0;
                case '<':
                    return left < right ? 1 : 0;
                case '>':
                    return left > right ? 1 : 0;
                case '&':
                    return left & right;
                default:
                    return left | right;
            }
        }

        private void push(int value) {
            if (top >= 0 && top < stack.length) {
                stack[top] = value;
                top++;
            }
        }

        private int pop() {
            if (top <= 0 || top > stack.length) {
                return 0;
            }
            top--;
            return stack[top];
        }
    }

    /** PLAYERS and METRONOME as the TEXT told them. */
    private static final class Town {
        int players;
        int metronome = USUAL_BEAT;
        final int[] beats = new int[MOST_PLAYERS];
        final int[] drifts = new int[MOST_PLAYERS];
        final int[] kinds = new int[MOST_PLAYERS];
        final int[] follows = new int[MOST_PLAYERS];
        final int[] hows = new int[MOST_PLAYERS];

        void clear() {
            players = 0;
            metronome = USUAL_BEAT;
        }

        void addPlayer() {
            if (players < MOST_PLAYERS) {
                beats[players] = USUAL_BEAT;
                drifts[players] = 0;
                kinds[players] = 0;
                follows[players] = NONE;
                hows[players] = 5;
                players++;
            }
        }

        void put(int player, int item, int number) {
            switch (item) {
                case TownReader.BEAT:
                    beats[player] = number;
                    break;
                case TownReader.DRIFT:
                    drifts[player] = number;
                    break;
                case TownReader.KIND:
                    kinds[player] = number;
                    break;
                case TownReader.FOLLOWS:
                    follows[player] = number;
                    break;
                default:
                    hows[player] = number;
            }
        }

        void copyFrom(Town other) {
            players = other.players;
            metronome = other.metronome;
            System.arraycopy(other.beats, 0, beats, 0, MOST_PLAYERS);
            System.arraycopy(other.drifts, 0, drifts, 0, MOST_PLAYERS);
            System.arraycopy(other.kinds, 0, kinds, 0, MOST_PLAYERS);
            System.arraycopy(other.follows, 0, follows, 0, MOST_PLAYERS);
            System.arraycopy(other.hows, 0, hows, 0, MOST_PLAYERS);
        }

        /** A BEAT behind so many DAYS whose DAMPS have this sum; that it is held in between changes nothing. */
        int drifted(int player, int beat, int days, int sum) {
            int by = drifts[player] * (kinds[player] < 2 ? days : sum);
            return held(kinds[player] % 2 == 0 ? beat + by : beat - by, 1, MOST_BEAT);
        }

        void goThroughDay(int[] now, int host, int wet) {
            for (int i = 0; i < players && i < now.length; i++) {
                now[i] = i == host ? metronome : drifted(i, now[i], 1, wet);
            }
        }
    }

    /** The DAY, what it takes to undo the latest ones, and the IMAGE. */
    private static final class Diary {
        private static final int MOST = 60;

        int today;
        int undoable;
        boolean hasImage;
        private int imageDay;
        private int next;
        private final int[] imageBeats = new int[MOST_PLAYERS];
        private final int[] rows = new int[MOST * MOST_PLAYERS];

        void open() {
            today = 0;
            undoable = 0;
            next = 0;
            hasImage = false;
        }

        void keep(int[] beats) {
            System.arraycopy(beats, 0, rows, next * MOST_PLAYERS, MOST_PLAYERS);
            next = (next + 1) % MOST;
            undoable = Math.min(undoable + 1, MOST);
        }

        void takeBack(int[] beats) {
            next = (next + MOST - 1) % MOST;
            System.arraycopy(rows, next * MOST_PLAYERS, beats, 0, MOST_PLAYERS);
            undoable--;
            today--;
        }

        void takeImage(int[] beats) {
            System.arraycopy(beats, 0, imageBeats, 0, MOST_PLAYERS);
            imageDay = today;
            hasImage = true;
        }

        void comeBack(int[] beats) {
            System.arraycopy(imageBeats, 0, beats, 0, MOST_PLAYERS);
            today = imageDay;
            undoable = 0;
        }
    }

    /** All that the PIECE is played from. */
    private static final class Score {
        int players;
        int bars = 9;
        int echo;
        int marked;
        final int[] beats = new int[MOST_PLAYERS];
        final int[] follows = new int[MOST_PLAYERS];
        final int[] hows = new int[MOST_PLAYERS];
        final int[] lates = new int[MOST_PLAYERS];

        void open(Town town) {
            players = town.players;
            marked = 0;
            System.arraycopy(town.beats, 0, beats, 0, MOST_PLAYERS);
            System.arraycopy(town.follows, 0, follows, 0, MOST_PLAYERS);
            System.arraycopy(town.hows, 0, hows, 0, MOST_PLAYERS);
            Arrays.fill(lates, 0);
        }

        void copyFrom(Score other) {
            players = other.players;
            bars = other.bars;
            echo = other.echo;
            marked = other.marked;
            System.arraycopy(other.beats, 0, beats, 0, MOST_PLAYERS);
            System.arraycopy(other.follows, 0, follows, 0, MOST_PLAYERS);
            System.arraycopy(other.hows, 0, hows, 0, MOST_PLAYERS);
            System.arraycopy(other.lates, 0, lates, 0, MOST_PLAYERS);
        }

        boolean isMarked(int bar) {
            return (marked >> bar & 1) != 0;
        }

        /** To whom one comes by so many steps to whom one FOLLOWS; NONE behind the end. */
        int aheadOf(int player, int steps) {
            int one = player;
            for (int i = 0; i < steps && one >= 0 && one < MOST_PLAYERS; i++) {
                one = follows[one];
            }
            return one;
        }
    }

    /** The PIECE as it was played last. */
    private static final class Play {
        private static final int ROW = MOST_PLAYERS;

        private final int[] beats = new int[(SETTLE_BARS + 1) * ROW];
        private final int[] times = new int[MOST_BARS * ROW];
        private final int[] waited = new int[ROW];
        final int[] spreads = new int[MOST_BARS];
        int settledFrom;
        int settledLength;
        private int players;
        private int bars;
        private int marked;

        /** WORST; or the ceiling, with the bars behind unplayed, as soon as WORST is not below it. */
        int perform(Score score, int ceiling) {
            open(score);
            int worst = 0;
            for (int bar = 0; bar < bars && bar < MOST_BARS; bar++) {
                if (bar > 0) {
                    goOn(score, bar);
                }
                int spread = playBar(score, bar);
                if (spread >= ceiling) {
                    return ceiling;
                }
                worst = Math.max(worst, spread);
            }
            return worst;
        }

        private void open(Score score) {
            players = score.players;
            bars = score.bars;
            marked = score.marked;
            for (int i = 0; i < ROW; i++) {
                beats[i] = score.beats[i];
                waited[i] = 0;
            }
        }

        /** BEATS of this bar (1 at least) from those of the bars ahead. */
        private void goOn(Score score, int bar) {
            int row = bar * ROW;
            int own = row - ROW;
            int heard = Math.max(bar - 1 - score.echo, 0) * ROW;
            for (int i = 0; i < players; i++) {
                int beat = beats[own + i];
                int one = score.follows[i];
                if (one >= 0 && one < ROW) {
                    beat = held(beat + score.hows[i] * (beats[heard + one] - beat) / 10, 1, MOST_BEAT);
                }
                beats[row + i] = beat;
            }
        }

        private int playBar(Score score, int bar) {
            int row = bar * ROW;
            int greatest = 0;
            int least = ENDLESS;
            for (int i = 0; i < players; i++) {
                int time = waited[i] + beats[row + i] + score.lates[i];
                times[row + i] = time;
                waited[i] = time;
                greatest = time > greatest ? time : greatest;
                least = time < least ? time : least;
            }
            if (score.isMarked(bar)) {
                Arrays.fill(waited, greatest);
            }
            spreads[bar] = greatest - least;
            return greatest - least;
        }

        int beatIn(int player, int bar) {
            return beats[bar * ROW + player];
        }

        int aheadOfWaiting(int player, int bar) {
            return times[bar * ROW + player];
        }

        int behindWaiting(int player, int bar) {
            return (marked >> bar & 1) != 0 ? greatestIn(bar) : aheadOfWaiting(player, bar);
        }

        int greatestIn(int bar) {
            return aheadOfWaiting(lastIn(bar), bar);
        }

        int lastIn(int bar) {
            int last = 0;
            for (int i = 1; i < players; i++) {
                if (aheadOfWaiting(i, bar) > aheadOfWaiting(last, bar)) {
                    last = i;
                }
            }
            return last;
        }

        boolean isAloneLast(int player, int bar) {
            for (int i = 0; i < players; i++) {
                if (i != player && aheadOfWaiting(i, bar) >= aheadOfWaiting(player, bar)) {
                    return false;
                }
            }
            return true;
        }

        int firstSpreadAbove(int value) {
            for (int bar = 0; bar < bars && bar < MOST_BARS; bar++) {
                if (spreads[bar] > value) {
                    return bar;
                }
            }
            return NONE;
        }

        int inPlace(int bar, int place) {
            for (int i = 0; i < players; i++) {
                if (placeOf(bar, i) == place) {
                    return i;
                }
            }
            return NONE;
        }

        private int placeOf(int bar, int player) {
            int own = aheadOfWaiting(player, bar);
            int before = 0;
            for (int i = 0; i < players; i++) {
                int time = aheadOfWaiting(i, bar);
                if (time < own || time == own && i < player) {
                    before++;
                }
            }
            return before;
        }

        /** In how many bars another of the two has come to be ahead than in the bar ahead. */
        int turns(int one, int other) {
            int count = 0;
            int before = order(one, other, 0);
            for (int bar = 1; bar < bars && bar < MOST_BARS; bar++) {
                int now = order(one, other, bar);
                if (now != 0 && now != before) {
                    count++;
                }
                before = now;
            }
            return count;
        }

        private int order(int one, int other, int bar) {
            return Integer.compare(aheadOfWaiting(one, bar), aheadOfWaiting(other, bar));
        }

        /** MIDDLE. */
        int innermost() {
            int best = 0;
            int least = ENDLESS;
            for (int i = 0; i < players; i++) {
                int apart = apartFromAll(i, bars - 1);
                if (apart < least) {
                    least = apart;
                    best = i;
                }
            }
            return best;
        }

        private int apartFromAll(int player, int bar) {
            int sum = 0;
            for (int i = 0; i < players; i++) {
                sum += Math.abs(aheadOfWaiting(i, bar) - aheadOfWaiting(player, bar));
            }
            return sum;
        }

        int firstChange(int player, int by) {
            for (int bar = 1; bar < bars && bar < MOST_BARS; bar++) {
                if (Math.abs(beatIn(player, bar) - beatIn(player, bar - 1)) >= by) {
                    return bar;
                }
            }
            return NONE;
        }

        /** Whether BEATS settle; if so, settledFrom and settledLength tell how. */
        boolean settles(Score score) {
            open(score);
            for (int bar = 1; bar <= SETTLE_BARS; bar++) {
                goOn(score, bar);
                for (int other = 0; other < bar; other++) {
                    if (soundsLike(bar, other)) {
                        settledFrom = other;
                        settledLength = bar - other;
                        return true;
                    }
                }
            }
            return false;
        }

        /** Whether BEATS of two bars, and of the three bars ahead of each, are alike. */
        private boolean soundsLike(int bar, int other) {
            for (int back = 0; back <= MOST_ECHO; back++) {
                int row = Math.max(bar - back, 0) * ROW;
                int otherRow = Math.max(other - back, 0) * ROW;
                for (int i = 0; i < players; i++) {
                    if (beats[row + i] != beats[otherRow + i]) {
                        return false;
                    }
                }
            }
            return true;
        }
    }

    /** MARKS: a mark lets all begin anew together, so marks part the PIECE into stretches that hold by themselves. */
    private static final class MarkSearch {
        int fewest;
        int bits;
        private final int[] counts = new int[MOST_BARS + 1];
        private final int[] masks = new int[MOST_BARS + 1];
        private final int[] sums = new int[MOST_PLAYERS];

        /** False: no MARKS hold it together. */
        boolean find(Play play, Score score, int limit) {
            Arrays.fill(counts, ENDLESS);
            counts[0] = 0;
            masks[0] = 0;
            fewest = ENDLESS;
            bits = 0;
            for (int start = 0; start < score.bars && start < MOST_BARS; start++) {
                if (counts[start] < ENDLESS) {
                    goOnFrom(start, play, score, limit);
                }
            }
            return fewest < ENDLESS;
        }

        private void goOnFrom(int start, Play play, Score score, int limit) {
            Arrays.fill(sums, 0);
            for (int bar = start; bar < score.bars && bar < MOST_BARS; bar++) {
                if (spreadBehind(bar, play, score) > limit) {
                    return;
                }
                if (bar == score.bars - 1) {
                    endBetter(counts[start], masks[start]);
                } else {
                    markBetter(bar, counts[start] + 1, masks[start] | 1 << bar);
                }
            }
        }

        private int spreadBehind(int bar, Play play, Score score) {
            int greatest = 0;
            int least = ENDLESS;
            for (int i = 0; i < score.players; i++) {
                sums[i] += play.beatIn(i, bar) + score.lates[i];
                greatest = Math.max(greatest, sums[i]);
                least = Math.min(least, sums[i]);
            }
            return greatest - least;
        }

        private void endBetter(int count, int mask) {
            if (count < fewest || count == fewest && mask < bits) {
                fewest = count;
                bits = mask;
            }
        }

        private void markBetter(int bar, int count, int mask) {
            if (count < counts[bar + 1] || count == counts[bar + 1] && mask < masks[bar + 1]) {
                counts[bar + 1] = count;
                masks[bar + 1] = mask;
            }
        }
    }

    /**
     * WEEK: a BEAT behind it hangs on the METRONOME's last DAY at its PLAYER alone, so of all rows alike in
     * these days only the least is played: elsewhere it has the lowest PLAYER who is visited later.
     */
    private static final class WeekSearch {
        boolean known;
        int row;
        int least;
        private final Play play;
        private final Score trial;
        final int[] wets = new int[WEEK_DAYS];
        private final int[] behind = new int[MOST_PLAYERS * (WEEK_DAYS + 1)];

        WeekSearch(Play play, Score trial) {
            this.play = play;
            this.trial = trial;
        }

        /** By the DAMPS of the six DAYS, that stand in wets. */
        void find(Town town, Score score) {
            trial.copyFrom(score);
            foresee(town, score);
            for (int i = 0; i < trial.players; i++) {
                trial.beats[i] = behind[slot(i, NONE)];
            }
            row = ENDLESS;
            least = ENDLESS;
            choose(this, WEEK_DAYS - 1, 0, 0, 1);
            known = true;
        }

        private void foresee(Town town, Score score) {
            int sum = 0;
            for (int day = WEEK_DAYS - 1; day >= NONE; day--) {
                for (int i = 0; i < town.players; i++) {
                    int beat = day == NONE ? score.beats[i] : town.metronome;
                    behind[slot(i, day)] = town.drifted(i, beat, WEEK_DAYS - 1 - day, sum);
                }
                sum += day == NONE ? 0 : wets[day];
            }
        }

        /** Where the BEAT is kept that a PLAYER has behind the WEEK, if the METRONOME was there last on this day. */
        private static int slot(int player, int day) {
            return player * (WEEK_DAYS + 1) + day + 1;
        }

        private static void choose(WeekSearch search, int day, int visited, int rest, int digit) {
            if (day < 0) {
                search.weigh(rest);
                return;
            }
            int[] beats = search.trial.beats;
            int lowest = visited & -visited;
            for (int i = 0; i < search.trial.players; i++) {
                int bit = 1 << i;
                if (bit == lowest) {
                    choose(search, day - 1, visited, rest + i * digit, digit * 10);
                } else if ((visited & bit) == 0) {
                    beats[i] = search.behind[slot(i, day)];
                    choose(search, day - 1, visited | bit, rest + i * digit, digit * 10);
                    beats[i] = search.behind[slot(i, NONE)];
                }
            }
        }

        private void weigh(int candidate) {
            int ceiling = candidate < row ? least + 1 : least;
            int most = ceiling > 0 ? play.perform(trial, ceiling) : ceiling;
            if (most < ceiling) {
                least = most;
                row = candidate;
            }
        }
    }
}
