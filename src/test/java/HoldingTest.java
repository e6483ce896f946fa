/** Promises 24 to 28: holds, held, write, stored, count. */
public final class HoldingTest {
    private static final int[] WRONG = {Integer.MIN_VALUE, -1, 20, Integer.MAX_VALUE};

    public static void main(String[] args) {
        holds();
        held();
        mayUse();
        writes();
        lateHands();
        writeRefusals();
        stored();
        counts();
        Check.end();
    }

    private static void holdsIs(LeaseBoard x, int worker, int thing, int... want) {
        for (int what = 0; what < want.length; what++) {
            Check.due("holds(" + worker + ", " + thing + ", " + what + ")", x.holds(worker, thing, what), want[what]);
        }
    }

    private static void holds() {
        LeaseBoard x = Boards.plain(1, 2);
        x.thing(1, 10, 0);
        x.thing(2, 10, 8);
        holdsIs(x, 0, 0, 0, 0, -1, -1, 0);
        Boards.taken(x, 0, 0, 1, 0);
        holdsIs(x, 0, 0, 1, 1, 1, 0, 0);
        Boards.taken(x, 0, 1, 0, 8);
        holdsIs(x, 0, 1, 1, 1, 0, 8, 0);
        holdsIs(x, 1, 1, 0, 0, -1, -1, 0);
        x.renew(0, 0, 1);
        holdsIs(x, 0, 1, 1, 1, 0, 8, 1);
        x.end(0, 0, 1);
        holdsIs(x, 0, 1, 0, 0, -1, -1, 0);
        x.wake(1, 0, false);
        holdsIs(x, 0, 0, 0, 1, 1, 0, 0);
        for (int n : WRONG) {
            Check.due("holds worker " + n, x.holds(n, 0, 0), -2);
            Check.due("holds thing " + n, x.holds(0, n, 0), -2);
            Check.due("holds what " + n, x.holds(0, 0, n), -2);
        }
        Check.due("worker 2", x.holds(2, 0, 0), -2);
        Check.due("thing 2", x.holds(0, 2, 0), -2);
        Check.due("what 5", x.holds(0, 0, 5), -2);
    }

    private static void held() {
        LeaseBoard x = new LeaseBoard(0);
        x.keeper(500, 1000);
        x.worker(-100, 1000);
        x.thing(0, 10, 0);
        x.lead(0);
        Check.due("holds nothing", x.held(0, 0, 0), LeaseBoard.NO);
        Check.due("holds nothing", x.held(0, 0, 1), LeaseBoard.NO);
        Boards.taken(x, 0, 0, 0, 0);
        Check.due("NUMBER", x.held(0, 0, 0), 1);
        Check.due("until", x.held(0, 0, 1), -90);
        x.tick(100);
        Check.due("it holds it by its memory", x.held(0, 0, 1), -90);
        for (int n : WRONG) {
            Check.due("held worker " + n, x.held(n, 0, 0), LeaseBoard.NO);
            Check.due("held thing " + n, x.held(0, n, 0), LeaseBoard.NO);
            Check.due("held what " + n, x.held(0, 0, n), LeaseBoard.NO);
        }
        Check.due("what 2", x.held(0, 0, 2), LeaseBoard.NO);
        x.fall(0);
        Check.due("fallen", x.held(0, 0, 0), LeaseBoard.NO);
    }

    private static void mayUse() {
        LeaseBoard x = new LeaseBoard(100);
        x.keeper(0, 1000);
        x.worker(0, 1100);
        x.worker(0, 900);
        x.thing(1, 9, 0);
        x.lead(0);
        Boards.taken(x, 0, 0, 1, 0);
        Boards.taken(x, 1, 0, 1, 0);
        x.tick(8);
        Check.due("its clock shows 8", x.holds(0, 0, 0), 1);
        x.tick(1);
        Check.due("its clock shows 9", x.holds(0, 0, 0), 0);
        Check.due("the slow one's shows 8", x.holds(1, 0, 0), 1);
        x.tick(1);
        Check.due("the slow one's shows 9", x.holds(1, 0, 0), 0);
        Check.due("both hold it", x.holds(0, 0, 1) + x.holds(1, 0, 1), 2);
    }

    private static void writes() {
        LeaseBoard x = Boards.plain(1, 2);
        x.thing(0, 10, 0);
        x.thing(0, 10, 0);
        x.store();
        x.store();
        Check.due("NUMBER at first", x.stored(0, 0, 0), 0);
        Check.due("nothing written", x.stored(0, 0, 1), 0);
        Boards.taken(x, 0, 0, 0, 0);
        Check.due("taken", x.write(0, 0, 1, Long.MIN_VALUE), 1);
        Check.due("NUMBER", x.stored(1, 0, 0), 1);
        Check.due("written", x.stored(1, 0, 1), Long.MIN_VALUE);
        Check.due("another store", x.stored(0, 0, 1), 0);
        Check.due("another thing", x.stored(1, 1, 0), 0);
        Check.due("once more, with the same NUMBER", x.write(0, 0, 1, Long.MAX_VALUE), 1);
        Check.due("written", x.stored(1, 0, 1), Long.MAX_VALUE);
        x.tick(50);
        Check.due("though it may not use it", x.holds(0, 0, 0), 0);
        Check.due("taken", x.write(0, 0, 1, 5), 1);
    }

    private static void lateHands() {
        LeaseBoard x = Boards.plain(1, 2);
        x.thing(0, 10, 0);
        x.store();
        x.store();
        Boards.taken(x, 0, 0, 0, 0);
        Check.due("first", x.write(0, 0, 0, 7), 1);
        x.tick(12);
        Boards.taken(x, 1, 0, 0, 0);
        Check.due("not written yet: the late one may", x.write(0, 0, 0, 8), 1);
        Check.due("second", x.write(1, 0, 0, 9), 1);
        Check.due("greatest", x.stored(0, 0, 0), 2);
        Check.due("none refused", x.count(13), 0);
        Check.due("a late hand", x.write(0, 0, 0, 10), 0);
        Check.due("refused", x.count(13), 1);
        Check.due("greatest stays", x.stored(0, 0, 0), 2);
        Check.due("written stays", x.stored(0, 0, 1), 9);
        Check.due("another store knows not", x.write(0, 0, 1, 11), 1);
        Check.due("refused again", x.write(0, 0, 0, 10), 0);
        Check.due("twice", x.count(13), 2);
    }

    private static void writeRefusals() {
        LeaseBoard x = Boards.plain(1, 2);
        x.thing(1, 10, 0);
        x.thing(0, 10, 0);
        Check.due("no store", x.write(0, 0, 0, 1), -2);
        x.store();
        for (int n : WRONG) {
            Check.due("worker " + n, x.write(n, 0, 0, 1), -2);
            Check.due("thing " + n, x.write(0, n, 0, 1), -2);
            Check.due("store " + n, x.write(0, 0, n, 1), -2);
        }
        Check.due("store 1", x.write(0, 0, 1, 1), -2);
        Check.due("it holds nothing", x.write(0, 0, 0, 1), -3);
        Boards.taken(x, 0, 0, 1, 0);
        Check.due("READ", x.write(0, 0, 0, 1), -3);
        Boards.taken(x, 0, 1, 0, 0);
        x.wake(1, 0, false);
        Check.due("asleep", x.write(0, 1, 0, 1), -3);
        Check.due("BAD is ahead of STATE", x.write(0, 1, 1, 1), -2);
        x.wake(1, 0, true);
        Check.due("awake", x.write(0, 1, 0, 1), 1);
        Check.due("none of these counts", x.count(13), 0);
        x.end(0, 0, 1);
        Check.due("ended", x.write(0, 1, 0, 1), -3);
    }

    private static void stored() {
        LeaseBoard x = Boards.plain(1, 1);
        Check.due("no thing", x.stored(0, 0, 0), LeaseBoard.NO);
        x.thing(0, 10, 0);
        Check.due("no store", x.stored(0, 0, 0), LeaseBoard.NO);
        x.store();
        Check.due("both", x.stored(0, 0, 0), 0);
        for (int n : WRONG) {
            Check.due("store " + n, x.stored(n, 0, 0), LeaseBoard.NO);
            Check.due("thing " + n, x.stored(0, n, 0), LeaseBoard.NO);
            Check.due("what " + n, x.stored(0, 0, n), LeaseBoard.NO);
        }
        Check.due("store 1", x.stored(1, 0, 0), LeaseBoard.NO);
        Check.due("thing 1", x.stored(0, 1, 0), LeaseBoard.NO);
        Check.due("what 2", x.stored(0, 0, 2), LeaseBoard.NO);
        lastOnes();
    }

    private static void lastOnes() {
        LeaseBoard x = Boards.plain(1, 20);
        for (int i = 0; i < 20; i++) {
            x.thing(0, 10, 0);
        }
        for (int i = 0; i < 6; i++) {
            x.store();
        }
        Boards.taken(x, 19, 19, 0, 0);
        Check.due("the last of all", x.write(19, 19, 5, 3), 1);
        Check.due("the last of all", x.stored(5, 19, 1), 3);
    }

    private static void countsAre(LeaseBoard x, int... want) {
        for (int what = 0; what < want.length; what++) {
            Check.due("count(" + what + ")", x.count(what), want[what]);
        }
    }

    private static void counts() {
        LeaseBoard x = Boards.plain(2, 3);
        x.thing(4, 10, 0);
        x.store();
        countsAre(x, 2, 3, 1, 1, 0, 0, 2, 0, 1, 0, 0, 0, 0, 0, 0);
        Boards.taken(x, 0, 0, 0, 0);
        countsAre(x, 2, 3, 1, 1, 2, 0, 2, 0, 1, 1, 0, 0, 0, 0, 0);
        Boards.asked(x, 1, 0, 0, 0);
        Boards.asked(x, 0, 0, 0, 0);
        countsAre(x, 2, 3, 1, 1, 5, 1, 2, 0, 1, 1, 1, 0, 0, 0, 0);
        x.tick(12);
        int late = Boards.answered(x, x.renew(0, 0, 0));
        Check.due("a LATE behind the TURN", x.letter(late - 1, 0), 6);
        countsAre(x, 2, 3, 1, 1, 8, 3, 2, 0, 1, 1, 1, 1, 0, 0, 0);
        x.deliver(late - 1);
        x.wake(0, 1, false);
        countsAre(x, 2, 3, 1, 1, 8, 2, 1, 0, 1, 1, 1, 1, 1, 0, 0);
        for (int n : WRONG) {
            Check.due("count " + n, x.count(n), -2);
        }
        Check.due("count 15", x.count(15), -2);
    }
}
