/** Promises 1 to 7: a new object, keeper, worker, thing, store, tick, clock. */
public final class MakingTest {
    private static final int[] WRONG = {Integer.MIN_VALUE, -1, Integer.MAX_VALUE};

    public static void main(String[] args) {
        newObject();
        drift();
        keepers();
        workers();
        things();
        longs();
        stores();
        ticks();
        clocks();
        Check.end();
    }

    private static void newObject() {
        LeaseBoard x = new LeaseBoard(7);
        for (int what = 0; what <= 14; what++) {
            Check.due("count(" + what + ") at first", x.count(what), what == 7 ? -1 : 0);
        }
        Check.due("status at first", x.status(), 0);
        Check.due("tick(0) at first", x.tick(0), 0);
        Check.due("look without things", x.look(0), -2);
        Check.due("lead without keepers", x.lead(0), -2);
    }

    private static void drift() {
        int[][] told = {{0, 0}, {1, 1}, {50, 50}, {99, 99}, {100, 100}, {101, 100}, {-1, 0},
            {Integer.MIN_VALUE, 0}, {Integer.MAX_VALUE, 100}};
        for (int[] t : told) {
            LeaseBoard x = new LeaseBoard(t[0]);
            Check.due("rate below, drift " + t[0], x.keeper(0, 1000 - t[1] - 1), -2);
            Check.due("rate above, drift " + t[0], x.keeper(0, 1000 + t[1] + 1), -2);
            Check.due("least rate, drift " + t[0], x.keeper(0, 1000 - t[1]), 0);
            Check.due("most rate, drift " + t[0], x.keeper(0, 1000 + t[1]), 1);
        }
    }

    private static void keepers() {
        LeaseBoard x = new LeaseBoard(10);
        Check.due("begin too low", x.keeper(-1000001, 1000), -2);
        Check.due("begin too high", x.keeper(1000001, 1000), -2);
        Check.due("begin far too low", x.keeper(Integer.MIN_VALUE, 1000), -2);
        Check.due("rate far too high", x.keeper(0, Integer.MAX_VALUE), -2);
        Check.due("none came of it", x.count(0), 0);
        Check.due("lowest begin", x.keeper(-1000000, 1000), 0);
        Check.due("highest begin", x.keeper(1000000, 1000), 1);
        Check.due("third", x.keeper(0, 990), 2);
        Check.due("fourth", x.keeper(0, 1010), 3);
        Check.due("fifth", x.keeper(0, 1000), 4);
        Check.due("sixth", x.keeper(0, 1000), -4);
        Check.due("BAD is ahead of FULL", x.keeper(0, 989), -2);
        Check.due("five", x.count(0), 5);
        Check.due("all awake", x.count(6), 5);
    }

    private static void workers() {
        LeaseBoard x = new LeaseBoard(10);
        Check.due("begin too low", x.worker(-1000001, 1000), -2);
        Check.due("begin too high", x.worker(1000001, 1000), -2);
        Check.due("rate too low", x.worker(0, 989), -2);
        Check.due("rate too high", x.worker(0, 1011), -2);
        Check.due("rate far too low", x.worker(0, Integer.MIN_VALUE), -2);
        for (int i = 0; i < 20; i++) {
            Check.due("worker", x.worker(i % 2 == 0 ? -1000000 : 1000000, i % 2 == 0 ? 990 : 1010), i);
        }
        Check.due("a worker too many", x.worker(0, 1000), -4);
        Check.due("BAD is ahead of FULL", x.worker(1000001, 1000), -2);
        Check.due("twenty", x.count(1), 20);
        Check.due("awake at first", x.wake(1, 19, true), 0);
    }

    private static void things() {
        LeaseBoard x = new LeaseBoard(10);
        for (int n : WRONG) {
            Check.due("kind", x.thing(n, 1, 0), -2);
            Check.due("length", x.thing(0, n, 0), -2);
            Check.due("whole", x.thing(0, 1, n), -2);
            Check.due("whole of COUNTED", x.thing(2, 1, n), -2);
        }
        Check.due("kind 5", x.thing(5, 1, 0), -2);
        Check.due("length 0", x.thing(0, 0, 0), -2);
        Check.due("length 1001", x.thing(0, 1001, 0), -2);
        Check.due("COUNTED whole 0", x.thing(2, 1, 0), -2);
        Check.due("COUNTED whole 101", x.thing(2, 1, 101), -2);
        for (int kind : new int[] {0, 1, 3, 4}) {
            Check.due("whole of kind " + kind, x.thing(kind, 1, 1), -2);
        }
        Check.due("none came of it", x.count(2), 0);
        for (int i = 0; i < 20; i++) {
            int kind = i % 5;
            int length = i < 10 ? 1 + i : 1000 - i;
            int whole = kind == 2 ? (i < 10 ? 1 : 100) : 0;
            Check.due("thing", x.thing(kind, length, whole), i);
            Check.due("KIND", x.told(i, 0), kind);
            Check.due("LENGTH", x.told(i, 1), length);
            Check.due("WHOLE", x.told(i, 3), whole);
        }
        Check.due("length 1000", new LeaseBoard(0).thing(0, 1000, 0), 0);
        Check.due("a thing too many", x.thing(0, 1, 0), -4);
        Check.due("BAD is ahead of FULL", x.thing(0, 1, 1), -2);
        Check.due("twenty", x.count(2), 20);
    }

    private static void longs() {
        int[][] told = {{0, 1, 3}, {0, 1000, 1002}, {50, 20, 25}, {50, 19, 23}, {100, 5, 9}, {100, 9, 13},
            {100, 1000, 1225}, {1, 1, 4}, {100, 1, 4}, {10, 99, 103}, {10, 100, 105}, {1, 500, 504}};
        for (int[] t : told) {
            LeaseBoard x = new LeaseBoard(t[0]);
            x.thing(0, t[1], 0);
            Check.due("LONG of " + t[1] + " with drift " + t[0], x.told(0, 2), t[2]);
        }
    }

    private static void stores() {
        LeaseBoard x = new LeaseBoard(0);
        for (int i = 0; i < 6; i++) {
            Check.due("store", x.store(), i);
        }
        Check.due("a store too many", x.store(), -4);
        Check.due("six", x.count(3), 6);
    }

    private static void ticks() {
        LeaseBoard x = new LeaseBoard(0);
        for (int n : WRONG) {
            Check.due("tick", x.tick(n), -2);
        }
        Check.due("tick(100001)", x.tick(100001), -2);
        Check.due("tick(0)", x.tick(0), 0);
        Check.due("tick(99999)", x.tick(99999), 99999);
        Check.due("tick(1)", x.tick(1), 100000);
        // beyond the 512 calls that the document asks for, as the last TIME lies beyond them
        for (int i = 2; i <= 1000; i++) {
            Check.due("tick(100000)", x.tick(100000), 100000 * i);
        }
        Check.due("above the last TIME", x.tick(1), -4);
        Check.due("BAD is ahead of FULL", x.tick(100001), -2);
        Check.due("still there", x.tick(0), 100000000);
    }

    private static void clocks() {
        LeaseBoard x = new LeaseBoard(100);
        x.keeper(-1000000, 900);
        x.keeper(5, 1001);
        x.worker(1000000, 1100);
        x.worker(-7, 999);
        Check.due("keeper 0 at first", x.clock(0, 0), -1000000);
        Check.due("worker 0 at first", x.clock(1, 0), 1000000);
        x.tick(1);
        Check.due("cut, not up", x.clock(0, 0), -1000000);
        Check.due("worker 1, cut", x.clock(1, 1), -7);
        x.tick(998);
        Check.due("999 * 0.9", x.clock(0, 0), -1000000 + 899);
        Check.due("999 * 1.001", x.clock(0, 1), 5 + 999);
        Check.due("999 * 1.1", x.clock(1, 0), 1000000 + 1098);
        Check.due("999 * 0.999", x.clock(1, 1), -7 + 998);
        x.tick(1);
        Check.due("1000 * 1.001", x.clock(0, 1), 5 + 1001);
        Check.due("made later, its BEGIN is of TIME 0", x.keeper(0, 1000), 2);
        Check.due("made later", x.clock(0, 2), 1000);
        for (int n : WRONG) {
            Check.due("no such what", x.clock(n, 0), LeaseBoard.NO);
            Check.due("no such keeper", x.clock(0, n), LeaseBoard.NO);
            Check.due("no such worker", x.clock(1, n), LeaseBoard.NO);
        }
        Check.due("what 2", x.clock(2, 0), LeaseBoard.NO);
        Check.due("keeper 3", x.clock(0, 3), LeaseBoard.NO);
        Check.due("worker 2", x.clock(1, 2), LeaseBoard.NO);
        for (int i = 0; i < 400; i++) {
            x.tick(100000);
        }
        Check.due("beyond an int on the way", x.clock(1, 0), 1000000L + 40001000L * 1100 / 1000);
    }
}
