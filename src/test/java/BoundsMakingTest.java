/** The bounds of promises 1 to 7, each by its sentence. */
public final class BoundsMakingTest {
    private static final int LEAST = Integer.MIN_VALUE, MOST = Integer.MAX_VALUE;

    public static void main(String[] args) {
        nearestDrift();
        keepers();
        workers();
        things();
        thingsAreFull();
        stores();
        ticks();
        tickIsFull();
        clocks();
        Check.end();
    }

    private static void nearestDrift() {
        Document.says(1, "DRIFT, or the nearest of 0 .. 100.");
        int[][] told = {{LEAST, 0}, {-100, 0}, {-1, 0}, {0, 0}, {1, 1}, {99, 99}, {100, 100}, {101, 100}, {1000, 100},
            {MOST, 100}};
        for (int[] t : told) {
            LeaseBoard x = new LeaseBoard(t[0]);
            Check.due("slowest, drift " + t[0], x.worker(0, 1000 - t[1]), 0);
            Check.due("fastest, drift " + t[0], x.worker(0, 1000 + t[1]), 1);
            Check.due("too slow, drift " + t[0], x.worker(0, 999 - t[1]), -2);
            Check.due("too fast, drift " + t[0], x.worker(0, 1001 + t[1]), -2);
            Check.due("thing", x.thing(0, 1000 - t[1], 0), 0);
            Check.due("its LONG, drift " + t[0], x.told(0, 2), 1000 + t[1] + 2);
        }
    }

    private static void keepers() {
        Document.says(2, "A KEEPER: its number. BAD; FULL.");
        LeaseBoard x = new LeaseBoard(0);
        for (int i = 0; i < 5; i++) {
            Check.due("keeper", x.keeper(i, 1000), i);
            Check.due("so many", x.count(0), i + 1);
            Check.due("with the CLOCK that was told", x.clock(0, i), i);
        }
        Scene four = new Scene(0, y -> makeKeepers(y, 4));
        four.answers("the fifth", 4, y -> y.keeper(0, 1000));
        four.refuses("begin", -2, y -> y.keeper(-1000001, 1000));
        four.refuses("rate", -2, y -> y.keeper(0, 1001));
        Scene five = new Scene(0, y -> makeKeepers(y, 5));
        five.refuses("the sixth", -4, y -> y.keeper(0, 1000));
        five.refuses("the sixth, BAD", -2, y -> y.keeper(0, 1001));
    }

    private static void makeKeepers(LeaseBoard x, int n) {
        for (int i = 0; i < n; i++) {
            x.keeper(0, 1000);
        }
    }

    private static void workers() {
        Document.says(3, "A WORKER: its number. BAD; FULL.");
        LeaseBoard x = new LeaseBoard(0);
        for (int i = 0; i < 20; i++) {
            Check.due("worker", x.worker(i, 1000), i);
            Check.due("so many", x.count(1), i + 1);
            Check.due("with the CLOCK that was told", x.clock(1, i), i);
        }
        Scene nineteen = new Scene(0, y -> makeWorkers(y, 19));
        nineteen.answers("the twentieth", 19, y -> y.worker(0, 1000));
        nineteen.refuses("begin", -2, y -> y.worker(1000001, 1000));
        nineteen.refuses("rate", -2, y -> y.worker(0, 999));
        Scene twenty = new Scene(0, y -> makeWorkers(y, 20));
        twenty.refuses("the next", -4, y -> y.worker(0, 1000));
        twenty.refuses("the next, BAD", -2, y -> y.worker(0, 999));
    }

    private static void makeWorkers(LeaseBoard x, int n) {
        for (int i = 0; i < n; i++) {
            x.worker(0, 1000);
        }
    }

    private static void things() {
        Document.says(4, "A THING: its number. BAD: kind, length, whole (1 .. 100; of others than COUNTED 0);");
        Scene busy = Boards.busy();
        int[][] not = {{-1, 1, 0}, {5, 1, 0}, {LEAST, 1, 0}, {MOST, 1, 0}, {0, 0, 0}, {0, 1001, 0}, {0, LEAST, 0},
            {0, MOST, 0}, {0, 1, 1}, {0, 1, -1}, {1, 1, 1}, {3, 1, 1}, {4, 1, 1}, {4, 1, -1}, {2, 1, 0}, {2, 1, 101},
            {2, 1, -1}, {2, 0, 1}, {2, 1001, 1}, {2, 1, LEAST}, {2, 1, MOST}};
        for (int[] n : not) {
            busy.refuses("thing(" + n[0] + ", " + n[1] + ", " + n[2] + ")", -2, x -> x.thing(n[0], n[1], n[2]));
        }
        int[][] taken = {{0, 1, 0}, {0, 1000, 0}, {1, 1, 0}, {2, 1, 1}, {2, 1000, 100}, {3, 1000, 0}, {4, 1, 0}};
        for (int[] n : taken) {
            busy.answers("thing(" + n[0] + ", " + n[1] + ", " + n[2] + ")", 5, x -> x.thing(n[0], n[1], n[2]));
        }
        busy.answers("a WHOLE of 1", 1, x -> x.told(x.thing(2, 1, 1), 3));
        busy.answers("a WHOLE of 100", 100, x -> x.told(x.thing(2, 1, 100), 3));
        LeaseBoard x = new LeaseBoard(0);
        for (int kind = 0; kind < 5; kind++) {
            newThingIs(x, kind);
        }
    }

    /** No GRANTS, no RISER, nobody in the QUEUE, none CALLED, none that may use it. */
    private static void newThingIs(LeaseBoard x, int kind) {
        int t = x.thing(kind, 6, kind == 2 ? 9 : 0);
        int[] due = {kind, 6, 8, kind == 2 ? 9 : 0, 0, -1, 0, 0, 0, -1};
        for (int what = 0; what < due.length; what++) {
            Check.due("told(" + t + ", " + what + ") of a new one", x.told(t, what), due[what]);
        }
    }

    private static void thingsAreFull() {
        Document.says(4, "FULL.");
        Scene nineteen = new Scene(0, x -> makeThings(x, 19));
        nineteen.answers("the twentieth", 19, x -> x.thing(4, 1, 0));
        Scene twenty = new Scene(0, x -> makeThings(x, 20));
        for (int kind = 0; kind < 5; kind++) {
            int k = kind;
            twenty.refuses("one more of kind " + k, -4, x -> x.thing(k, 1, k == 2 ? 1 : 0));
        }
        twenty.refuses("one more, BAD", -2, x -> x.thing(0, 0, 0));
    }

    private static void makeThings(LeaseBoard x, int n) {
        for (int i = 0; i < n; i++) {
            x.thing(0, 1, 0);
        }
    }

    private static void stores() {
        Document.says(5, "A STORE: its number. FULL.");
        LeaseBoard x = new LeaseBoard(0);
        for (int i = 0; i < 6; i++) {
            Check.due("store", x.store(), i);
            Check.due("so many", x.count(3), i + 1);
        }
        Scene six = new Scene(0, y -> {
            y.thing(0, 1, 0);
            for (int i = 0; i < 6; i++) {
                y.store();
            }
        });
        six.refuses("the seventh", -4, y -> y.store());
    }

    private static void ticks() {
        Document.says(6, "TIME goes on by n (0 .. 100000): TIME. BAD;");
        Scene busy = Boards.busy();
        for (int n : new int[] {-1, 100001, LEAST, MOST}) {
            busy.refuses("tick(" + n + ")", -2, x -> x.tick(n));
        }
        busy.refuses("tick(0)", 4, x -> x.tick(0));
        busy.answers("tick(1)", 5, x -> x.tick(1));
        busy.answers("tick(100000)", 100004, x -> x.tick(100000));
    }

    /** The last TIME lies beyond the 512 calls of which the document tells; the class keeps to it all the same. */
    private static void tickIsFull() {
        Document.says(6, "FULL: it would be above 100000000.");
        LeaseBoard x = new LeaseBoard(0);
        x.keeper(0, 1000);
        for (int i = 1; i <= 999; i++) {
            x.tick(100000);
        }
        Check.due("to one before", x.tick(99999), 99999999);
        Check.due("two more", x.tick(2), -4);
        Check.due("as much as may be", x.tick(100000), -4);
        Check.due("TIME stays", x.tick(0), 99999999);
        Check.due("the clock stays", x.clock(0, 0), 99999999);
        Check.due("one more", x.tick(1), 100000000);
        Check.due("none more", x.tick(0), 100000000);
        Check.due("FULL", x.tick(1), -4);
        Check.due("BAD comes first", x.tick(100001), -2);
        Check.due("TIME stays", x.tick(0), 100000000);
    }

    private static void clocks() {
        Document.says(7, "What a CLOCK shows: of a KEEPER (what 0), a WORKER (1). NO: no such.");
        Scene busy = Boards.busy();
        busy.refuses("keeper 0", 4, x -> x.clock(0, 0));
        busy.refuses("keeper 1", 504, x -> x.clock(0, 1));
        busy.refuses("keeper 2", -500 + 3, x -> x.clock(0, 2));
        busy.refuses("worker 0", 4, x -> x.clock(1, 0));
        busy.refuses("worker 3", 34, x -> x.clock(1, 3));
        int[][] none = {{0, 3}, {0, -1}, {0, LEAST}, {0, MOST}, {1, 4}, {1, -1}, {1, LEAST}, {1, MOST}, {2, 0}, {-1, 0},
            {LEAST, 0}, {MOST, 0}};
        for (int[] n : none) {
            busy.refuses("clock(" + n[0] + ", " + n[1] + ")", LeaseBoard.NO, x -> x.clock(n[0], n[1]));
        }
        Scene empty = new Scene(0, x -> { });
        empty.refuses("no keeper yet", LeaseBoard.NO, x -> x.clock(0, 0));
        empty.refuses("no worker yet", LeaseBoard.NO, x -> x.clock(1, 0));
        busy.then(x -> {
            x.wake(0, 1, false);
            x.fall(0);
        }).answers("it goes on in one that sleeps", 505 + 14, x -> {
            x.tick(15);
            return x.clock(0, 1);
        });
    }
}
