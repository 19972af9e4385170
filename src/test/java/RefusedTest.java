import java.util.ArrayList;
import java.util.List;
import java.util.NoSuchElementException;

/**
 * "What is refused answers as told and changes nothing.": of two objects made alike one is asked what is refused, then
 * both must answer alike to all that can be asked. These are more calls than are promised of one object.
 */
public final class RefusedTest extends Asking {
    private interface Call {
        long on(BorrowedBeat x);
    }

    private interface Maker {
        BorrowedBeat make();
    }

    private static final int[] FAR = {Integer.MAX_VALUE, Integer.MIN_VALUE, 1 << 30, -1000000, 256, 64, 32, -2};

    private String state = "";
    private Maker maker;
    private BorrowedBeat one;

    public static void main(String[] args) {
        RefusedTest t = new RefusedTest();
        t.says("What is refused answers as told and changes nothing.");
        t.withoutTown();
        t.withTown();
        t.whenFull();
        t.check.close("RefusedTest");
    }

    private void in(String name, Maker of) {
        state = name;
        maker = of;
        one = maker.make();
    }

    /** All that is refused in one state is asked of one object, one behind the other. */
    private void refused(String call, long due, Call refused) {
        long got;
        try {
            got = refused.on(one);
        } catch (NoSuchElementException e) {
            got = THROWN;
        }
        due(state + ": " + call, got, due);
    }

    private void none(String call, Call refused) {
        refused(call, NONE, refused);
    }

    private void no(String call, Call refused) {
        refused(call, 0, refused);
    }

    private static long of(boolean answer) {
        return answer ? 1 : 0;
    }

    private void nothingChanged() {
        List<Long> got = answers(one);
        List<Long> due = answers(maker.make());
        due(state + ": answers", got.size(), due.size());
        for (int i = 0; i < got.size() && i < due.size(); i++) {
            due(state + ": answer " + i + " behind all that was refused", got.get(i), due.get(i));
        }
    }

    private static List<Long> answers(BorrowedBeat x) {
        List<Long> all = new ArrayList<>();
        now(x, all);
        while (x.undo() != NONE) {
            all.add((long) x.count(4));
            now(x, all);
        }
        all.add((long) x.back());
        now(x, all);
        for (int law = 0; law < 4; law++) {
            all.add(of(x.set(0, law)));
            for (int day = 0; day < 12; day++) {
                all.add((long) x.damp(day));
            }
        }
        for (int n = x.count(3); n > 0; n--) {
            x.end(n);
            all.add((long) x.fault(0));
            all.add((long) x.fault(1));
        }
        all.add((long) Check.give(x, 0, "p;p;p;p;p;p;mb55"));
        now(x, all);
        all.add((long) Check.give(x, 1, "y:3"));
        now(x, all);
        return all;
    }

    private static void now(BorrowedBeat x, List<Long> all) {
        for (int what = 0; what < 12; what++) {
            all.add((long) x.count(what));
        }
        for (int bar = 0; bar < 30; bar++) {
            all.add((long) x.spread(bar));
            all.add((long) x.last(bar));
        }
        for (int p = 0; p < 6; p++) {
            for (int what = 0; what < 7; what++) {
                all.add(player(x, p, what));
            }
            all.add((long) x.time(p, 0, 1));
            all.add((long) x.fits(p));
            all.add((long) x.ring(p));
            all.add((long) x.leader(p, 1));
            all.add((long) x.paid(p));
        }
        int[] others = {x.fault(0), x.fault(1), x.worst(0), x.worst(1), x.parts(), x.settle(0), x.marks(1), x.gift(1), x.echoes(1), x.damp(7)};
        for (int answer : others) {
            all.add((long) answer);
        }
    }

    // The three states

    private static BorrowedBeat townless() {
        BorrowedBeat x = new BorrowedBeat();
        Check.give(x, 1, "y:o+2");
        x.set(0, 0);
        x.set(1, 12);
        x.set(2, 1);
        x.set(3, 33);
        Check.feed(x, "m;p1");
        return x;
    }

    private static BorrowedBeat usual() {
        BorrowedBeat x = Check.town("pb60d1;pb50f0h5d2k2;pb40f1h7d1k3;mb55");
        Check.give(x, 1, "y:d");
        Check.give(x, 1, "y:o+1");
        x.set(0, 1);
        x.set(1, 12);
        x.set(2, 2);
        x.set(3, 40);
        x.tell(0, 2, 3);
        x.mark(1, true);
        x.mark(20, true);
        x.roll(1, 0, 60);
        letDaysGoBy(x, 2);
        x.image();
        x.day(1);
        x.day(NONE);
        Check.feed(x, "pb60;pf");
        return x;
    }

    private static BorrowedBeat full() {
        BorrowedBeat x = Check.town("pd1;pd1;pd1;pd1;pd1;pd1");
        for (int i = 0; i < 4; i++) {
            Check.give(x, 1, "y:o+" + i);
        }
        x.set(0, 3);
        x.set(1, 30);
        for (int i = 0; i < 20; i++) {
            x.roll(0, 0, 60 + i / 19);
        }
        letDaysGoBy(x, 70);
        for (int bar = 0; bar < 30; bar++) {
            x.mark(bar, true);
        }
        for (int i = 0; i < 32; i++) {
            x.feed('y' << 24 | ':' << 16 | '1' << 8 | ';', ';', 0, 0, 0);
        }
        return x;
    }

    private void withoutTown() {
        in("without a TOWN", RefusedTest::townless);
        textsAndTold(4, 0, 1);
        none("text(0)", x -> x.text(0));
        none("text(1)", x -> x.text(1));
        none("day(NONE)", x -> x.day(NONE));
        none("damp(0)", x -> x.damp(0));
        none("undo()", BorrowedBeat::undo);
        none("image()", BorrowedBeat::image);
        none("back()", BorrowedBeat::back);
        none("parts()", BorrowedBeat::parts);
        none("middle()", BorrowedBeat::middle);
        no("mark(0, true)", x -> of(x.mark(0, true)));
        no("mark(0, false)", x -> of(x.mark(0, false)));
        ofPlayer(0);
        ofPlayer(-1);
        ofBar(0);
        ofBar(11);
        ofWhat(0);
        ofWhat(1);
        nothingChanged();
    }

    private void withTown() {
        in("with a TOWN", RefusedTest::usual);
        textsAndTold(7, 3, 2);
        none("text(0)", x -> x.text(0));
        none("text(1)", x -> x.text(1));
        players(3);
        bars(12);
        whats();
        no("mark(1, true)", x -> of(x.mark(1, true)));
        no("mark(0, false)", x -> of(x.mark(0, false)));
        no("mark(20, true)", x -> of(x.mark(20, true)));
        no("tell(1, 0, 1)", x -> of(x.tell(1, 0, 1)));
        none("overtakes(1, 1)", x -> x.overtakes(1, 1));
        none("tune(0, 0)", x -> x.set(3, 0) && x.tune(0, 0) == NONE && x.set(3, 40) ? NONE : 0);
        nothingChanged();
    }

    private void whenFull() {
        in("when all is full", RefusedTest::full);
        due("TAPE", one.count(3), 160);
        textsAndTold(160, 6, 4);
        none("text(0)", x -> x.text(0));
        none("text(1)", x -> x.text(1));
        none("feed one byte", x -> x.feed(0, 0, 0, 0, 1));
        none("feed twenty bytes", x -> x.feed(-1, -1, -1, -1, -1));
        none("roll a twenty-first", x -> x.roll(0, 0, 61));
        players(6);
        bars(30);
        whats();
        for (int bar = 0; bar < 30; bar++) {
            int at = bar;
            no("mark(" + bar + ", true)", x -> of(x.mark(at, true)));
        }
        nothingChanged();
        // a LAW without a FAULT, but there are four
        in("with four LAWS", () -> {
            BorrowedBeat x = full();
            Check.give(x, 2, "y:5");
            return x;
        });
        due("no FAULT", one.fault(1), NONE);
        none("a fifth LAW", x -> x.text(1));
        none("a LAW as a TOWN", x -> x.text(0));
        nothingChanged();
    }

    private static int[] with(int[] more, int... some) {
        int[] all = new int[more.length + some.length];
        System.arraycopy(some, 0, all, 0, some.length);
        System.arraycopy(more, 0, all, some.length, more.length);
        return all;
    }

    /** Of TAPE, TEXTS and what is told. */
    private void textsAndTold(int bytes, int players, int laws) {
        for (int n : with(FAR, -1, bytes + 1)) {
            if (n < 0 || n > bytes) {
                no("end(" + n + ")", x -> of(x.end(n)));
            }
        }
        for (int sort : with(FAR, -1, 2)) {
            refused("fault(" + sort + ")", -2, x -> x.fault(sort));
            none("text(" + sort + ")", x -> x.text(sort));
        }
        for (int what : with(FAR, -1, 4)) {
            no("set(" + what + ", 0)", x -> of(x.set(what, 0)));
            no("set(" + what + ", 1)", x -> of(x.set(what, 1)));
        }
        for (int what : with(FAR, -1, 12)) {
            refused("count(" + what + ")", HIDDEN, x -> x.count(what));
        }
        setOutOf(0, -1, laws - 1);
        setOutOf(1, 1, 30);
        setOutOf(2, 0, 3);
        setOutOf(3, 0, 999);
        for (int p = 0; p < players; p++) {
            tellOutOf(p, 0, -1, players - 1);
            tellOutOf(p, 1, 0, 10);
            tellOutOf(p, 2, 0, 50);
        }
    }

    private void setOutOf(int what, int least, int most) {
        for (int v : with(FAR, least - 1, most + 1)) {
            if (v < least || v > most) {
                no("set(" + what + ", " + v + ")", x -> of(x.set(what, v)));
            }
        }
    }

    private void tellOutOf(int player, int what, int least, int most) {
        for (int v : with(FAR, least - 1, most + 1)) {
            if (v < least || v > most) {
                no("tell(" + player + ", " + what + ", " + v + ")", x -> of(x.tell(player, what, v)));
            }
        }
        if (what == 0) {
            no("itself", x -> of(x.tell(player, 0, player)));
        }
    }

    /** Such PLAYERS, and such bars, and such whats, as there are none. */
    private void players(int players) {
        for (int p : with(FAR, -1, players)) {
            ofPlayer(p);
        }
    }

    private void bars(int bars) {
        for (int bar : with(FAR, -1, bars)) {
            ofBar(bar);
        }
        for (int bar : with(FAR, -1, 30)) {
            no("mark(" + bar + ", true)", x -> of(x.mark(bar, true)));
            no("mark(" + bar + ", false)", x -> of(x.mark(bar, false)));
            none("roll(0, " + bar + ", 0)", x -> x.roll(0, bar, 0));
        }
    }

    private void whats() {
        for (int what : with(FAR, -1, 2)) {
            ofWhat(what);
            refused("leader(0, " + what + ")", HIDDEN, x -> x.leader(0, what));
            none("tune(0, " + what + ")", x -> x.tune(0, what));
        }
        for (int what : with(FAR, -1, 3)) {
            none("time(0, 0, " + what + ")", x -> x.time(0, 0, what));
            no("tell(0, " + what + ", 0)", x -> of(x.tell(0, what, 0)));
        }
        for (int what : with(FAR, -1, 7)) {
            refused("player(0, " + what + ")", THROWN, x -> x.player(0, what));
        }
        for (int day : with(new int[] {Integer.MAX_VALUE, Integer.MIN_VALUE}, -1, 1000)) {
            none("damp(" + day + ")", x -> x.damp(day));
        }
        for (int n : with(FAR, 0, -1, 7)) {
            none("odds(0, " + n + ")", x -> x.odds(0, n));
        }
        for (int by : with(FAR, 0, -1, 100)) {
            none("stray(0, " + by + ")", x -> by > 0 && by < 100 ? NONE : x.stray(0, by));
        }
        for (int time : with(new int[] {Integer.MAX_VALUE, Integer.MIN_VALUE}, -1, 10000)) {
            none("roll(0, 0, " + time + ")", x -> x.roll(0, 0, time));
        }
    }

    private void ofPlayer(int p) {
        String of = "(" + p + ")";
        refused("player(" + p + ", 0)", THROWN, x -> x.player(p, 0));
        refused("leader(" + p + ", 0)", HIDDEN, x -> x.leader(p, 0));
        no("tell(" + p + ", 1, 1)", x -> of(x.tell(p, 1, 1)));
        no("tell(" + p + ", 0, NONE)", x -> of(x.tell(p, 0, NONE)));
        if (p != NONE) {
            none("day" + of, x -> x.day(p));
        }
        none("time" + of, x -> x.time(p, 0, 0));
        none("ring" + of, x -> x.ring(p));
        none("head" + of, x -> x.head(p));
        none("odds" + of, x -> x.odds(p, 1));
        none("paid" + of, x -> x.paid(p));
        none("roll" + of, x -> x.roll(p, 0, 60));
        none("fits" + of, x -> x.fits(p));
        none("deaf" + of, x -> x.deaf(p));
        none("tune" + of, x -> x.tune(p, 0));
        none("place" + of, x -> x.place(0, p));
        none("overtakes" + of, x -> x.overtakes(p, 1));
        none("overtakes of" + of, x -> x.overtakes(1, p));
        none("stray" + of, x -> x.stray(p, 1));
    }

    private void ofBar(int bar) {
        String of = "(" + bar + ")";
        for (int what = 0; what < 3; what++) {
            int such = what;
            none("time at" + of, x -> x.time(0, bar, such));
        }
        none("spread" + of, x -> x.spread(bar));
        none("last" + of, x -> x.last(bar));
        none("place at" + of, x -> x.place(bar, 0));
    }

    private void ofWhat(int what) {
        String of = "(" + what + ")";
        none("worst" + of, x -> x.worst(what));
        none("settle" + of, x -> x.settle(what));
        none("week" + of, x -> x.week(what));
        none("marks" + of, x -> x.marks(what));
        none("echoes" + of, x -> x.echoes(what));
        none("gift" + of, x -> x.gift(what));
        none("ends" + of, x -> x.ends(what));
    }
}
