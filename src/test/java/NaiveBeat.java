import java.util.ArrayList;
import java.util.Arrays;
import java.util.HashMap;
import java.util.List;
import java.util.Map;
import java.util.NoSuchElementException;

/** The document told a second time, as plainly and as slowly as its words, to compare with. */
final class NaiveBeat {
    static final int NONE = -1;
    static final int HIDDEN = -1000000;

    private String tape = "";
    private int n;
    private int metronome = 60;
    private int[] first = {};
    private int[] drift = {};
    private int[] kind = {};
    private int[] follows = {};
    private int[] how = {};
    private int[] late = {};
    private int[] beat = {};
    private int day;
    private final List<String> laws = new ArrayList<>();
    private int law = NONE;
    private int bars = 9;
    private int echo;
    private int limit = 20;
    private boolean[] marked = new boolean[30];
    private List<int[]> roll = new ArrayList<>();
    private List<int[]> undo = new ArrayList<>();
    private int[] image;
    private int imageDay;

    int feed(int a, int b, int c, int d, int e) {
        StringBuilder more = new StringBuilder();
        for (int word : new int[] {a, b, c, d, e}) {
            for (int i = 3; i >= 0; i--) {
                int sign = (word >> (8 * i)) & 0xff;
                if (sign != 0) {
                    more.append((char) sign);
                }
            }
        }
        if (tape.length() + more.length() > 160) {
            return NONE;
        }
        tape += more;
        return tape.length();
    }

    boolean end(int to) {
        if (to < 0 || to > tape.length()) {
            return false;
        }
        tape = tape.substring(0, to);
        return true;
    }

    int fault(int sort) {
        return sort == 0 ? new NaiveTown(tape).fault() : sort == 1 ? NaiveLaw.fault(tape) : -2;
    }

    int text(int sort) {
        if (sort == 0 && fault(0) == NONE) {
            open(new NaiveTown(tape));
            tape = "";
            return n;
        }
        if (sort == 1 && fault(1) == NONE && laws.size() < 4) {
            laws.add(tape);
            tape = "";
            return laws.size() - 1;
        }
        return NONE;
    }

    private void open(NaiveTown town) {
        n = town.players.size();
        metronome = town.metronome;
        first = new int[n];
        drift = new int[n];
        kind = new int[n];
        follows = new int[n];
        how = new int[n];
        late = new int[n];
        for (int p = 0; p < n; p++) {
            Map<Character, Integer> items = town.players.get(p);
            first[p] = items.getOrDefault('b', 60);
            drift[p] = items.getOrDefault('d', 0);
            kind[p] = items.getOrDefault('k', 0);
            follows[p] = items.getOrDefault('f', NONE);
            how[p] = items.getOrDefault('h', 5);
        }
        beat = first.clone();
        day = 0;
        marked = new boolean[30];
        roll = new ArrayList<>();
        undo = new ArrayList<>();
        image = null;
    }

    int player(int player, int what) {
        if (!has(player) || what < 0 || what > 6) {
            throw new NoSuchElementException();
        }
        return new int[][] {beat, first, drift, kind, follows, how, late}[what][player];
    }

    boolean set(int what, int v) {
        if (what == 0 && v >= NONE && v < laws.size()) {
            law = v;
            return true;
        }
        if (what == 1 && v >= 1 && v <= 30) {
            bars = v;
            return true;
        }
        if (what == 2 && v >= 0 && v <= 3) {
            echo = v;
            return true;
        }
        if (what == 3 && v >= 0 && v <= 999) {
            limit = v;
            return true;
        }
        return false;
    }

    boolean tell(int player, int what, int v) {
        if (!has(player)) {
            return false;
        }
        if (what == 0 && (v == NONE || has(v)) && v != player) {
            follows[player] = v;
            return true;
        }
        if (what == 1 && v >= 0 && v <= 10) {
            how[player] = v;
            return true;
        }
        if (what == 2 && v >= 0 && v <= 50) {
            late[player] = v;
            return true;
        }
        return false;
    }

    boolean mark(int bar, boolean is) {
        if (n == 0 || bar < 0 || bar > 29 || marked[bar] == is) {
            return false;
        }
        marked[bar] = is;
        return true;
    }

    private boolean has(int player) {
        return player >= 0 && player < n;
    }

    private int dampOf(int of) {
        if (law == NONE) {
            return 0;
        }
        int o = 0;
        for (int d = 0; d <= of; d++) {
            int worth = NaiveLaw.worth(laws.get(law), Map.of('d', d, 'w', d % 7, 'm', metronome, 'n', n, 'o', o));
            o = Math.max(0, Math.min(9, worth));
        }
        return o;
    }

    int damp(int of) {
        return n == 0 || of < 0 || of > 999 ? NONE : dampOf(of);
    }

    /** BEATS behind a DAY. */
    private int[] behind(int[] now, int host, int damp) {
        int[] then = now.clone();
        for (int p = 0; p < n; p++) {
            if (p == host) {
                then[p] = metronome;
                continue;
            }
            if (kind[p] == 0) {
                then[p] += drift[p];
            }
            if (kind[p] == 1) {
                then[p] -= drift[p];
            }
            if (kind[p] == 2) {
                then[p] += drift[p] * damp;
            }
            if (kind[p] == 3) {
                then[p] -= drift[p] * damp;
            }
            then[p] = Math.max(1, Math.min(199, then[p]));
        }
        return then;
    }

    int day(int host) {
        if (n == 0 || host != NONE && !has(host)) {
            return NONE;
        }
        undo.add(beat);
        if (undo.size() > 60) {
            undo.remove(0);
        }
        beat = behind(beat, host, dampOf(day));
        return ++day;
    }

    int undo() {
        if (undo.isEmpty()) {
            return NONE;
        }
        beat = undo.remove(undo.size() - 1);
        return --day;
    }

    int image() {
        if (n == 0) {
            return NONE;
        }
        image = beat;
        imageDay = day;
        return day;
    }

    int back() {
        if (image == null) {
            return NONE;
        }
        beat = image;
        day = imageDay;
        undo.clear();
        return day;
    }

    // The piece: BEATS by bars, then TIMES from them

    private int[][] beats(int[] start, int count) {
        int[][] rows = new int[count][];
        rows[0] = start.clone();
        for (int bar = 1; bar < count; bar++) {
            rows[bar] = rows[bar - 1].clone();
            for (int p = 0; p < n; p++) {
                if (follows[p] != NONE) {
                    int from = bar - 1 - echo < 0 ? 0 : bar - 1 - echo;
                    int own = rows[bar - 1][p];
                    int less = rows[from][follows[p]] - own;
                    int part = how[p] * Math.abs(less) / 10;
                    rows[bar][p] = Math.max(1, Math.min(199, less < 0 ? own - part : own + part));
                }
            }
        }
        return rows;
    }

    /** TIMES ahead of waiting, by bars. */
    private int[][] times(int[] start, boolean[] marks) {
        int[][] rows = beats(start, bars);
        int[][] times = new int[bars][n];
        int[] waited = new int[n];
        for (int bar = 0; bar < bars; bar++) {
            for (int p = 0; p < n; p++) {
                times[bar][p] = waited[p] + rows[bar][p] + late[p];
            }
            waited = times[bar].clone();
            if (marks[bar]) {
                Arrays.fill(waited, Arrays.stream(waited).max().getAsInt());
            }
        }
        return times;
    }

    private int[][] times() {
        return times(beat, marked);
    }

    private static int spreadOf(int[] row) {
        return Arrays.stream(row).max().getAsInt() - Arrays.stream(row).min().getAsInt();
    }

    private static int worstOf(int[][] times) {
        int worst = 0;
        for (int[] row : times) {
            worst = Math.max(worst, spreadOf(row));
        }
        return worst;
    }

    private static int lastOf(int[] row) {
        int most = Arrays.stream(row).max().getAsInt();
        int p = 0;
        while (row[p] != most) {
            p++;
        }
        return p;
    }

    private boolean hasBar(int bar) {
        return n > 0 && bar >= 0 && bar < bars;
    }

    private boolean hasNot(int what) {
        return n == 0 || what < 0 || what > 1;
    }

    int time(int player, int bar, int what) {
        if (!has(player) || !hasBar(bar) || what < 0 || what > 2) {
            return NONE;
        }
        if (what == 2) {
            return beats(beat, bars)[bar][player];
        }
        int[] row = times()[bar];
        return what == 1 && marked[bar] ? Arrays.stream(row).max().getAsInt() : row[player];
    }

    int spread(int bar) {
        return hasBar(bar) ? spreadOf(times()[bar]) : NONE;
    }

    int worst(int what) {
        if (hasNot(what)) {
            return NONE;
        }
        int worst = worstOf(times());
        if (what == 0) {
            return worst;
        }
        int bar = 0;
        while (spread(bar) != worst) {
            bar++;
        }
        return bar;
    }

    int parts() {
        for (int bar = 0; n > 0 && bar < bars; bar++) {
            if (spread(bar) > limit) {
                return bar;
            }
        }
        return NONE;
    }

    int last(int bar) {
        return hasBar(bar) ? lastOf(times()[bar]) : NONE;
    }

    int settle(int what) {
        if (hasNot(what)) {
            return NONE;
        }
        int[][] rows = beats(beat, 201);
        Map<String, Integer> seen = new HashMap<>();
        for (int j = 0; j <= 200; j++) {
            StringBuilder state = new StringBuilder();
            for (int k = 0; k <= 3; k++) {
                state.append(Arrays.toString(rows[Math.max(0, j - k)]));
            }
            Integer i = seen.putIfAbsent(state.toString(), j);
            if (i != null) {
                return what == 0 ? i : j - i;
            }
        }
        return NONE;
    }

    int ring(int player) {
        if (!has(player)) {
            return NONE;
        }
        int bits = 0;
        for (int p = 0; p < n; p++) {
            // p is in the ring if one comes to it, and from it to itself
            if ((p == player || comes(player, p)) && comes(p, p)) {
                bits |= 1 << p;
            }
        }
        return bits;
    }

    private boolean comes(int from, int to) {
        int one = from;
        for (int i = 0; i < 10 && one != NONE; i++) {
            one = follows[one];
            if (one == to) {
                return true;
            }
        }
        return false;
    }

    int head(int player) {
        if (!has(player)) {
            return NONE;
        }
        int one = player;
        for (int i = 0; i < 10; i++) {
            if (follows[one] == NONE) {
                return one;
            }
            one = follows[one];
        }
        return NONE;
    }

    int week(int what) {
        if (hasNot(what)) {
            return NONE;
        }
        int rows = 1;
        for (int i = 0; i < 6; i++) {
            rows *= n;
        }
        int[] damps = new int[6];
        for (int i = 0; i < 6; i++) {
            damps[i] = dampOf(day + i);
        }
        int least = Integer.MAX_VALUE;
        int best = 0;
        for (int r = 0; r < rows; r++) {
            int[] then = beat;
            int digits = 0;
            for (int i = 0, power = rows / n; i < 6; i++, power /= n) {
                int host = r / power % n;
                then = behind(then, host, damps[i]);
                digits = digits * 10 + host;
            }
            int worst = worstOf(times(then, marked));
            if (worst < least) {
                least = worst;
                best = digits;
            }
        }
        return what == 0 ? best : least;
    }

    int leader(int player, int what) {
        if (!has(player) || what < 0 || what > 1) {
            return HIDDEN;
        }
        int kept = follows[player];
        int least = Integer.MAX_VALUE;
        int best = 0;
        for (int f = NONE; f < n; f++) {
            follows[player] = f;
            if (f != player && worst(0) < least) {
                least = worst(0);
                best = f;
            }
            follows[player] = kept;
        }
        return what == 0 ? best : least;
    }

    int marks(int what) {
        if (hasNot(what)) {
            return NONE;
        }
        int best = bars <= 10 ? marksByRows() : marksFromBehind();
        return best == NONE || what == 1 ? best : Integer.bitCount(best);
    }

    /** Slow: asks all rows of MARKS. */
    private int marksByRows() {
        int best = NONE;
        for (int bits = 0; bits < 1 << bars; bits++) {
            boolean[] these = new boolean[30];
            for (int bar = 0; bar < bars; bar++) {
                these[bar] = (bits >> bar & 1) == 1;
            }
            boolean fewer = best == NONE || Integer.bitCount(bits) < Integer.bitCount(best);
            if (fewer && worstOf(times(beat, these)) <= limit) {
                best = bits;
            }
        }
        return best;
    }

    /** From each bar on by itself: whoever begins later may part sooner, so that no first mark is better than all others. */
    private int marksFromBehind() {
        int[] best = new int[bars];
        for (int from = bars - 1; from >= 0; from--) {
            best[from] = holds(from, bars - 1) ? 0 : NONE;
            for (int at = from; best[from] != 0 && at < bars - 1 && holds(from, at); at++) {
                if (best[at + 1] != NONE) {
                    best[from] = better(best[from], best[at + 1] | 1 << at);
                }
            }
        }
        return best[0];
    }

    private static int better(int marks, int others) {
        if (marks == NONE) {
            return others;
        }
        int fewer = Integer.compare(Integer.bitCount(marks), Integer.bitCount(others));
        return fewer < 0 || fewer == 0 && marks < others ? marks : others;
    }

    /** Whether all keep together in these bars if they begin them together. */
    private boolean holds(int from, int to) {
        boolean[] these = new boolean[30];
        if (from > 0) {
            these[from - 1] = true;
        }
        int[][] times = times(beat, these);
        for (int bar = from; bar <= to; bar++) {
            if (spreadOf(times[bar]) > limit) {
                return false;
            }
        }
        return true;
    }

    int odds(int player, int days) {
        if (!has(player) || days < 1 || days > 6) {
            return NONE;
        }
        return oddsFrom(beat, player, days);
    }

    private int oddsFrom(int[] now, int player, int days) {
        if (days == 0) {
            return lastOf(times(now, marked)[bars - 1]) == player ? 1 : 0;
        }
        int sum = 0;
        for (int damp = 0; damp <= 2; damp++) {
            sum += oddsFrom(behind(now, NONE, damp), player, days - 1);
        }
        return sum;
    }

    int paid(int player) {
        if (!has(player)) {
            return NONE;
        }
        int kept = late[player];
        for (int v = 0; v <= 50; v++) {
            late[player] = v;
            int[] row = times()[bars - 1];
            late[player] = kept;
            int own = row[player];
            row[player] = -1;
            if (Arrays.stream(row).max().getAsInt() < own) {
                return v;
            }
        }
        return NONE;
    }

    int roll(int player, int bar, int time) {
        if (!has(player) || bar < 0 || bar > 29 || time < 0 || time > 9999 || roll.size() == 20) {
            return NONE;
        }
        roll.add(new int[] {player, bar, time});
        return roll.size();
    }

    int fits(int player) {
        if (!has(player)) {
            return NONE;
        }
        int kept = follows[player];
        int bits = 0;
        for (int f = NONE; f < n; f++) {
            if (f == player) {
                continue;
            }
            follows[player] = f;
            boolean so = true;
            for (int[] one : roll) {
                so &= time(one[0], one[1], 1) == one[2];
            }
            follows[player] = kept;
            bits |= !so ? 0 : f == NONE ? 64 : 1 << f;
        }
        return bits;
    }

    int deaf(int player) {
        if (!has(player)) {
            return NONE;
        }
        int kept = follows[player];
        follows[player] = NONE;
        int worst = worst(0);
        follows[player] = kept;
        return worst;
    }

    int echoes(int what) {
        if (hasNot(what)) {
            return NONE;
        }
        int kept = echo;
        int[] worsts = new int[4];
        for (echo = 0; echo < 4; echo++) {
            worsts[echo] = worst(0);
        }
        echo = kept;
        int least = Arrays.stream(worsts).min().getAsInt();
        return what == 1 ? least : indexOf(worsts, least);
    }

    int gift(int what) {
        if (hasNot(what)) {
            return NONE;
        }
        int[] worsts = new int[n];
        for (int p = 0; p < n; p++) {
            worsts[p] = worstOf(times(behind(beat, p, dampOf(day)), marked));
        }
        int least = Arrays.stream(worsts).min().getAsInt();
        return what == 1 ? least : indexOf(worsts, least);
    }

    private static int indexOf(int[] row, int value) {
        int i = 0;
        while (row[i] != value) {
            i++;
        }
        return i;
    }

    int tune(int player, int what) {
        if (!has(player) || what < 0 || what > 1) {
            return NONE;
        }
        int kept = how[player];
        int best = NONE;
        int worst = NONE;
        for (int h = 0; h <= 10; h++) {
            how[player] = h;
            if (parts() == NONE && (best == NONE || Math.abs(h - kept) < Math.abs(best - kept))) {
                best = h;
                worst = worst(0);
            }
        }
        how[player] = kept;
        return what == 0 ? best : worst;
    }

    int place(int bar, int i) {
        if (!hasBar(bar) || !has(i)) {
            return NONE;
        }
        int[] row = times()[bar];
        List<Integer> order = new ArrayList<>();
        for (int p = 0; p < n; p++) {
            order.add(p);
        }
        order.sort((a, b) -> Integer.compare(row[a], row[b]));
        return order.get(i);
    }

    int overtakes(int one, int other) {
        if (!has(one) || !has(other) || one == other) {
            return NONE;
        }
        int[][] times = times();
        int count = 0;
        for (int bar = 1; bar < bars; bar++) {
            boolean comesAhead = times[bar][one] < times[bar][other] && times[bar - 1][one] >= times[bar - 1][other];
            boolean fallsBehind = times[bar][other] < times[bar][one] && times[bar - 1][other] >= times[bar - 1][one];
            count += comesAhead || fallsBehind ? 1 : 0;
        }
        return count;
    }

    int middle() {
        if (n == 0) {
            return NONE;
        }
        int[] row = times()[bars - 1];
        int[] apart = new int[n];
        for (int p = 0; p < n; p++) {
            for (int q = 0; q < n; q++) {
                apart[p] += Math.abs(row[p] - row[q]);
            }
        }
        return indexOf(apart, Arrays.stream(apart).min().getAsInt());
    }

    int ends(int what) {
        if (hasNot(what)) {
            return NONE;
        }
        int[] row = times()[bars - 1];
        return what == 0 ? Arrays.stream(row).max().getAsInt() : Arrays.stream(row).min().getAsInt();
    }

    int stray(int player, int by) {
        if (!has(player) || by < 1 || by > 99) {
            return NONE;
        }
        int[][] rows = beats(beat, bars);
        for (int bar = 1; bar < bars; bar++) {
            if (Math.abs(rows[bar][player] - rows[bar - 1][player]) >= by) {
                return bar;
            }
        }
        return NONE;
    }

    int count(int what) {
        int bits = 0;
        for (int bar = 0; bar < 30; bar++) {
            bits |= marked[bar] ? 1 << bar : 0;
        }
        int[] all = {n, metronome, laws.size(), tape.length(), day, law, bars, echo, limit, bits, roll.size(), undo.size()};
        return what >= 0 && what < all.length ? all[what] : HIDDEN;
    }
}
