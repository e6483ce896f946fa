/** The bounds of promises 24 to 28 and of a STORE (part 3 of the Terms), each by its sentence. */
public final class BoundsHoldingTest {
    private static final int LEAST = Integer.MIN_VALUE, MOST = Integer.MAX_VALUE;

    public static void main(String[] args) {
        holds();
        holdsIsBad();
        held();
        storesAtFirst();
        writes();
        lateHands();
        writeIsRefused();
        stored();
        counts();
        countsOfLetters();
        countsOfTurns();
        nothingClashes();
        countIsBad();
        Check.end();
    }

    private static void holdsIs(String so, Scene s, int worker, int thing, int... due) {
        for (int what = 0; what < due.length; what++) {
            int w = what;
            String call = "holds(" + worker + ", " + thing + ", " + what + "), " + so;
            s.answers(call, due[what], x -> x.holds(worker, thing, w));
        }
    }

    private static void holds() {
        Document.says(24, "Of a WORKER and a THING: 0 whether it MAY use it (1, 0), 1 whether it HOLDS it, 2 its MODE (NONE), "
            + "3 PARTS (NONE), 4 whether it WAITS.");
        Scene busy = Boards.busy();
        holdsIs("WRITE", busy, 0, 0, 1, 1, 0, 0, 0);
        holdsIs("READ", busy, 0, 1, 1, 1, 1, 0, 0);
        holdsIs("PARTS", busy, 1, 2, 1, 1, 0, 3, 0);
        holdsIs("it rises", busy, 0, 3, 1, 1, 1, 0, 1);
        holdsIs("nothing", busy, 2, 0, 0, 0, -1, -1, 0);
        holdsIs("nothing, but it waits", busy, 3, 0, 0, 0, -1, -1, 1);
        holdsIs("ended", busy, 0, 4, 0, 0, -1, -1, 0);
        holdsIs("late", busy.then(x -> x.tick(500)), 1, 2, 0, 1, 0, 3, 0);
        holdsIs("asleep", busy.then(x -> x.wake(1, 1, false)), 1, 2, 0, 1, 0, 3, 0);
        holdsIs("fallen", busy.then(x -> x.fall(1)), 1, 2, 0, 0, -1, -1, 0);
        holdsIs("one before until", busy.then(x -> x.tick(8)), 0, 0, 1, 1);
        holdsIs("at until", busy.then(x -> x.tick(9)), 0, 0, 0, 1);
        Scene fresh = busy.then(x -> x.thing(2, 5, 5));
        holdsIs("a new THING", fresh, 0, 5, 0, 0, -1, -1, 0);
        holdsIs("a new WORKER", busy.then(x -> x.worker(0, 1000)), 4, 0, 0, 0, -1, -1, 0);
    }

    private static void holdsIsBad() {
        Document.says(24, "BAD.");
        Scene busy = Boards.busy();
        for (int n : new int[] {-1, 20, LEAST, MOST}) {
            busy.refuses("WORKER " + n, -2, x -> x.holds(n, 0, 0));
            busy.refuses("THING " + n, -2, x -> x.holds(0, n, 0));
            busy.refuses("what " + n, -2, x -> x.holds(0, 0, n));
        }
        busy.refuses("WORKER 4", -2, x -> x.holds(4, 0, 0));
        busy.refuses("THING 5", -2, x -> x.holds(0, 5, 0));
        busy.refuses("what 5", -2, x -> x.holds(0, 0, 5));
        busy.refuses("what 5 of what it does not hold", -2, x -> x.holds(2, 0, 5));
        new Scene(0, x -> { }).refuses("none yet", -2, x -> x.holds(0, 0, 0));
        new Scene(0, x -> x.worker(0, 1000)).refuses("no THING yet", -2, x -> x.holds(0, 0, 1));
        new Scene(0, x -> x.thing(0, 1, 0)).refuses("no WORKER yet", -2, x -> x.holds(0, 0, 1));
    }

    private static void held() {
        Document.says(25, "Of what a WORKER HOLDS: its NUMBER (what 0), until (1). NO: it does not.");
        Scene busy = Boards.busy();
        busy.refuses("NUMBER", 2, x -> x.held(1, 2, 0));
        busy.refuses("until", 13 + 30, x -> x.held(1, 2, 1));
        busy.then(x -> x.tick(5000)).refuses("until, though late", 43, x -> x.held(1, 2, 1));
        busy.then(x -> x.wake(1, 1, false)).refuses("until, though asleep", 43, x -> x.held(1, 2, 1));
        busy.refuses("it does not", LeaseBoard.NO, x -> x.held(2, 0, 0));
        busy.refuses("it waits", LeaseBoard.NO, x -> x.held(3, 0, 1));
        busy.refuses("it ended it", LeaseBoard.NO, x -> x.held(0, 4, 0));
        busy.then(x -> x.fall(1)).refuses("it fell", LeaseBoard.NO, x -> x.held(1, 2, 1));
        for (int n : new int[] {-1, 20, LEAST, MOST}) {
            busy.refuses("WORKER " + n, LeaseBoard.NO, x -> x.held(n, 0, 0));
            busy.refuses("THING " + n, LeaseBoard.NO, x -> x.held(0, n, 0));
            busy.refuses("what " + n, LeaseBoard.NO, x -> x.held(0, 0, n));
        }
        busy.refuses("WORKER 4", LeaseBoard.NO, x -> x.held(4, 0, 0));
        busy.refuses("THING 5", LeaseBoard.NO, x -> x.held(0, 5, 0));
        busy.refuses("what 2", LeaseBoard.NO, x -> x.held(0, 0, 2));
        new Scene(0, x -> { }).refuses("none yet", LeaseBoard.NO, x -> x.held(0, 0, 0));
    }

    private static void storesAtFirst() {
        Document.terms("A STORE has for each THING the greatest NUMBER of a write that it took (0 at first), and what was written last.");
        LeaseBoard x = Boards.plain(1, 1);
        for (int t = 0; t < 20; t++) {
            x.thing(0, 10, 0);
        }
        for (int s = 0; s < 6; s++) {
            x.store();
            Check.due("greatest of the last THING", x.stored(s, 19, 0), 0);
            Check.due("written of the first", x.stored(s, 0, 1), 0);
        }
        Boards.taken(x, 0, 7, 0, 0);
        Check.due("write", x.write(0, 7, 3, 55), 1);
        for (int s = 0; s < 6; s++) {
            for (int t = 6; t <= 8; t++) {
                boolean there = s == 3 && t == 7;
                Check.due("greatest of " + s + ", " + t, x.stored(s, t, 0), there ? 1 : 0);
                Check.due("written of " + s + ", " + t, x.stored(s, t, 1), there ? 55 : 0);
            }
        }
    }

    private static void writes() {
        Document.says(26, "A WORKER that is AWAKE writes v to a STORE for a THING, with the NUMBER that it HOLDS (whether it MAY or "
            + "not): 1 it is taken (the NUMBER is not below the greatest one there),");
        for (long v : new long[] {0, 1, -1, Long.MIN_VALUE, Long.MAX_VALUE, LeaseBoard.NO}) {
            Scene written = Boards.busy().then(x -> x.write(0, 0, 0, v));
            Boards.busy().answers("write " + v, 1, x -> x.write(0, 0, 0, v));
            written.answers("written", v, x -> x.stored(0, 0, 1));
            written.answers("with its NUMBER", 1, x -> x.stored(0, 0, 0));
        }
        Scene busy = Boards.busy();
        busy.answers("the NUMBER is that there", 1, x -> x.write(0, 0, 1, 78));
        busy.then(x -> x.write(0, 0, 1, 78)).answers("written over", 78, x -> x.stored(1, 0, 1));
        Scene late = busy.then(x -> x.tick(5000));
        late.answers("it may not use it", 0, x -> x.holds(0, 0, 0));
        late.answers("it writes all the same", 1, x -> x.write(0, 0, 1, 79));
        busy.answers("one of two with PARTS", 1, x -> x.write(1, 2, 0, 5));
        busy.then(x -> x.write(1, 2, 0, 5)).answers("its NUMBER", 2, x -> x.stored(0, 2, 0));
        busy.then(x -> x.wake(0, 0, false)).answers("without a LEADER", 1, x -> x.write(0, 0, 0, 1));
    }

    private static void lateHands() {
        Document.says(26, "0 it is refused.");
        Scene s = Boards.busy().then(x -> x.write(1, 2, 0, 5));
        s.answers("one below the greatest", 0, x -> x.write(0, 2, 0, 6));
        Scene refused = s.then(x -> x.write(0, 2, 0, 6));
        refused.answers("what was written stays", 5, x -> x.stored(0, 2, 1));
        refused.answers("the greatest stays", 2, x -> x.stored(0, 2, 0));
        refused.answers("it is counted", 1, x -> x.count(13));
        refused.answers("at the greatest", 1, x -> x.write(1, 2, 0, 7));
        s.answers("another STORE", 1, x -> x.write(0, 2, 1, 6));
        s.answers("another THING of that STORE", 1, x -> x.write(0, 0, 0, 6));
        Scene both = Boards.busy().then(x -> x.write(0, 2, 0, 6));
        both.answers("above the greatest", 1, x -> x.write(1, 2, 0, 5));
    }

    private static void writeIsRefused() {
        Document.says(26, "BAD; STATE: not AWAKE, it does not HOLD it, or with READ.");
        Scene busy = Boards.busy();
        for (int n : new int[] {-1, 20, LEAST, MOST}) {
            busy.refuses("WORKER " + n, -2, x -> x.write(n, 0, 0, 1));
            busy.refuses("THING " + n, -2, x -> x.write(0, n, 0, 1));
            busy.refuses("STORE " + n, -2, x -> x.write(0, 0, n, 1));
        }
        busy.refuses("WORKER 4", -2, x -> x.write(4, 0, 0, 1));
        busy.refuses("THING 5", -2, x -> x.write(0, 5, 0, 1));
        busy.refuses("STORE 2", -2, x -> x.write(0, 0, 2, 1));
        busy.refuses("STORE 6", -2, x -> x.write(0, 0, 6, 1));
        busy.then(x -> x.wake(1, 0, false)).refuses("not AWAKE", -3, x -> x.write(0, 0, 0, 1));
        busy.refuses("it does not hold it", -3, x -> x.write(2, 0, 0, 1));
        busy.refuses("it waits for it", -3, x -> x.write(3, 0, 0, 1));
        busy.refuses("with READ, SHARED", -3, x -> x.write(0, 1, 0, 1));
        busy.refuses("with READ, RISING", -3, x -> x.write(0, 3, 0, 1));
        busy.then(x -> x.fall(0)).refuses("it fell", -3, x -> x.write(0, 0, 0, 1));
        busy.then(x -> x.end(0, 0, 0)).refuses("it ended it", -3, x -> x.write(0, 0, 0, 1));
        busy.then(x -> x.write(1, 2, 0, 5)).then(x -> x.wake(1, 0, false))
            .refuses("a late hand that is not AWAKE is STATE", -3, x -> x.write(0, 2, 0, 1));
        Scene risen = busy.then(x -> {
            x.deliver(x.end(1, 0, 3));
            x.deliver(x.rise(0, 0, 3));
        });
        risen.refuses("GRANTED WRITE, but it has not heard of it", -3, x -> x.write(0, 3, 0, 1));
        risen.then(x -> x.deliver(x.count(4) - 1)).answers("it has heard of it", 1, x -> x.write(0, 3, 0, 1));
    }

    private static void stored() {
        Document.says(27, "Of a STORE for a THING: what = 0 the greatest NUMBER, 1 what was written last (0). NO: no such.");
        Scene busy = Boards.busy();
        busy.refuses("the greatest NUMBER", 1, x -> x.stored(1, 0, 0));
        busy.refuses("what was written last", 77, x -> x.stored(1, 0, 1));
        busy.refuses("nothing yet", 0, x -> x.stored(0, 4, 0));
        busy.refuses("nothing yet", 0, x -> x.stored(0, 4, 1));
        for (int n : new int[] {-1, 20, LEAST, MOST}) {
            busy.refuses("STORE " + n, LeaseBoard.NO, x -> x.stored(n, 0, 0));
            busy.refuses("THING " + n, LeaseBoard.NO, x -> x.stored(0, n, 0));
            busy.refuses("what " + n, LeaseBoard.NO, x -> x.stored(0, 0, n));
        }
        busy.refuses("STORE 2", LeaseBoard.NO, x -> x.stored(2, 0, 0));
        busy.refuses("THING 5", LeaseBoard.NO, x -> x.stored(0, 5, 0));
        busy.refuses("what 2", LeaseBoard.NO, x -> x.stored(0, 0, 2));
        new Scene(0, x -> x.store()).refuses("no THING yet", LeaseBoard.NO, x -> x.stored(0, 0, 0));
        new Scene(0, x -> x.thing(0, 1, 0)).refuses("no STORE yet", LeaseBoard.NO, x -> x.stored(0, 0, 0));
    }

    private static void counts() {
        Document.says(28, "How many: 0 KEEPERS, 1 WORKERS, 2 THINGS, 3 STORES, 4 LETTERS, 5 UNDER WAY, 6 KEEPERS AWAKE, 7 LEADER "
            + "(NONE), 8 TERM, 9 how often was GRANTED (anew, too),");
        Scene empty = new Scene(0, x -> { });
        for (int what = 0; what <= 14; what++) {
            int w = what;
            empty.refuses("count(" + what + ") at first", what == 7 ? -1 : 0, x -> x.count(w));
        }
        Scene busy = Boards.busy();
        LeaseBoard y = busy.board();
        int underWay = 0;
        for (int l = 0; l < y.count(4); l++) {
            underWay += y.letter(l, 6) == 0 ? 1 : 0;
        }
        int[] due = {3, 4, 5, 2, 23, underWay, 3, 0, 1, 8, 0, 0, 0, 0, 0};
        Check.due("under way: the TURN, the last ASK", underWay, 2);
        for (int what = 0; what < due.length; what++) {
            int w = what;
            busy.refuses("count(" + what + ")", due[what], x -> x.count(w));
        }
        Scene full = Boards.letters(400);
        full.refuses("all LETTERS", 400, x -> x.count(4));
        full.refuses("UNDER WAY", 395, x -> x.count(5));
        full.refuses("GRANTED", 2, x -> x.count(9));
        Scene anew = Boards.letters(7).then(x -> x.deliver(x.rise(0, 0, 0)));
        anew.answers("GRANTED anew", 3, x -> x.count(9));
        anew.then(x -> x.deliver(x.renew(0, 0, 1))).answers("renewed", 3, x -> x.count(9));
        busy.then(x -> x.wake(0, 2, false)).answers("KEEPERS AWAKE", 2, x -> x.count(6));
    }

    /** Answers that were sent count at once, delivered or not; letters like them don't. */
    private static void countsOfLetters() {
        Document.says(28, "10 NOs, 11 LATEs that were sent (LETTERS that are like one aside),");
        Scene s = Boards.letters(7).then(x -> x.deliver(x.ask(0, 0, 0, 1, 0)));
        s.answers("a NO", 5, x -> x.letter(8, 0));
        s.answers("NOs", 1, x -> x.count(10));
        s.then(x -> x.twice(8)).answers("NOs, one like it aside", 1, x -> x.count(10));
        s.then(x -> x.deliver(x.twice(7))).answers("NOs, one that is sent anew", 2, x -> x.count(10));
        s.then(x -> x.lose(8)).answers("NOs, a lost one", 1, x -> x.count(10));
        Scene late = Boards.letters(7).then(x -> {
            x.renew(0, 0, 0);
            x.tick(12);
            x.deliver(7);
        });
        late.answers("a LATE", 7, x -> x.letter(8, 0));
        late.answers("LATEs", 1, x -> x.count(11));
        late.then(x -> x.twice(8)).answers("LATEs, one like it aside", 1, x -> x.count(11));
        late.then(x -> x.deliver(x.twice(7))).answers("LATEs, one that is sent anew", 2, x -> x.count(11));
        late.then(x -> x.deliver(8)).answers("LATEs, a delivered one", 1, x -> x.count(11));
        late.answers("no NO", 0, x -> x.count(10));
    }

    private static void countsOfTurns() {
        Document.says(28, "12 TURNS that were delivered to one AWAKE, 13 writes that were refused;");
        Scene called = Boards.letters(7).then(x -> x.deliver(x.end(0, 0, 1)));
        called.answers("sent", 0, x -> x.count(12));
        called.then(x -> x.deliver(8)).answers("delivered", 1, x -> x.count(12));
        Scene asleep = called.then(x -> {
            x.wake(1, 1, false);
            x.deliver(8);
        });
        asleep.answers("delivered to one asleep", 0, x -> x.count(12));
        Scene s = Boards.busy().then(x -> x.write(1, 2, 0, 5));
        s.answers("a write that was taken", 0, x -> x.count(13));
        s.then(x -> x.write(0, 2, 0, 5)).answers("one refused", 1, x -> x.count(13));
        s.then(x -> {
            x.write(0, 2, 0, 5);
            x.write(0, 2, 0, 5);
        }).answers("two refused", 2, x -> x.count(13));
        s.then(x -> x.write(0, 2, 7, 5)).answers("BAD is none", 0, x -> x.count(13));
        s.then(x -> x.write(2, 2, 0, 5)).answers("STATE is none", 0, x -> x.count(13));
    }

    /** By the document's own rules none ever clashes; here are the states nearest to it. */
    private static void nothingClashes() {
        Document.says(28, "14 THINGS of which, now, two MAY use what no two may (WRITE beside another one; of COUNTED ones more PARTS "
            + "than the WHOLE).");
        Scene busy = Boards.busy();
        busy.answers("two read one THING, two have all PARTS of another", 2, x -> x.told(1, 8));
        busy.answers("all PARTS are used", 5, x -> x.holds(0, 2, 3) + x.holds(1, 2, 3));
        busy.answers("none clashes", 0, x -> x.count(14));
        LeaseBoard x = Boards.plain(1, 20);
        x.thing(1, 10, 0);
        x.thing(2, 10, 20);
        for (int w = 0; w < 20; w++) {
            Boards.taken(x, w, 0, 1, 0);
            Boards.taken(x, w, 1, 0, 1);
        }
        Check.due("20 read, 20 have a PART", x.told(0, 8) + x.told(1, 8), 40);
        Check.due("none clashes", x.count(14), 0);
        Scene next = new Scene(100, y -> {
            y.keeper(0, 1100);
            y.worker(0, 900);
            y.worker(0, 900);
            y.thing(0, 9, 0);
            y.lead(0);
            Boards.taken(y, 0, 0, 0, 0);
            y.tick(12);
            Boards.taken(y, 1, 0, 0, 0);
        });
        next.answers("the next writes", 1, y -> y.holds(1, 0, 0));
        next.answers("the one before holds, but may not", 1, y -> y.holds(0, 0, 1));
        next.answers("none clashes", 0, y -> y.count(14));
    }

    private static void countIsBad() {
        Document.says(28, "BAD.");
        for (int n : new int[] {-1, 15, LEAST, MOST}) {
            Boards.busy().refuses("count(" + n + ")", -2, x -> x.count(n));
        }
    }
}
