/** Promises 15 to 19: deliver, lose, twice, letter, wrote; with what a letter does to a worker. */
public final class LettersTest {
    private static final int[] WRONG = {Integer.MIN_VALUE, -1, 400, Integer.MAX_VALUE};

    public static void main(String[] args) {
        deliverIsRefused();
        deliverToKeepers();
        deliverToWorkers();
        deliverFull();
        loses();
        doubles();
        tells();
        answers();
        grantsComeLate();
        grantsTakeThePlace();
        lates();
        noAndTurn();
        Check.end();
    }

    private static void deliverIsRefused() {
        LeaseBoard x = Boards.plain(1, 1);
        x.thing(0, 10, 0);
        for (int n : WRONG) {
            Check.due("deliver " + n, x.deliver(n), -2);
            Check.due("lose " + n, x.lose(n), -2);
            Check.due("twice " + n, x.twice(n), -2);
        }
        Check.due("none yet", x.deliver(0), -2);
        int l = x.ask(0, 0, 0, 0, 0);
        Check.due("the next", x.deliver(1), -2);
        Check.due("deliver", x.deliver(l), 1);
        Check.due("deliver again", x.deliver(l), -3);
        Check.due("lost", x.lose(1), 1);
        Check.due("deliver a lost one", x.deliver(1), -3);
    }

    private static void deliverToKeepers() {
        LeaseBoard x = Boards.plain(3, 1);
        x.thing(0, 10, 0);
        int other = x.ask(0, 1, 0, 0, 0);
        Check.due("not the leader", x.deliver(other), 0);
        Check.due("it is delivered, though", x.letter(other, 6), 1);
        Check.due("and never again", x.deliver(other), -3);
        Check.due("nothing happened", x.told(0, 4), 0);
        int l = x.ask(0, 0, 0, 0, 0);
        x.wake(0, 1, false);
        x.wake(0, 2, false);
        Check.due("not most are awake", x.deliver(l), 0);
        x.wake(0, 1, true);
        x.wake(0, 0, false);
        l = x.ask(0, 0, 0, 0, 0);
        Check.due("asleep", x.deliver(l), 0);
        x.wake(0, 0, true);
        l = x.ask(0, 0, 0, 0, 0);
        Check.due("awake, but it leads no more", x.deliver(l), 0);
        Check.due("no answers", x.count(4), 4);
        l = x.ask(0, 0, 0, 0, 0);
        x.lead(0);
        Check.due("it leads again", x.deliver(l), 1);
        Check.due("a GRANT", x.told(0, 4), 1);
    }

    private static void deliverToWorkers() {
        LeaseBoard x = Boards.plain(3, 1);
        x.thing(0, 10, 0);
        int grant = Boards.asked(x, 0, 0, 0, 0);
        int more = x.twice(grant);
        x.wake(1, 0, false);
        Check.due("asleep", x.deliver(grant), 0);
        Check.due("it is delivered", x.letter(grant, 6), 1);
        Check.due("it holds nothing", x.holds(0, 0, 1), 0);
        Check.due("it waits on", x.holds(0, 0, 4), 1);
        x.wake(1, 0, true);
        x.wake(0, 0, false);
        x.wake(0, 1, false);
        Check.due("awake: whatever the keepers do", x.deliver(more), 1);
        Check.due("it holds", x.holds(0, 0, 1), 1);
    }

    private static void deliverFull() {
        LeaseBoard x = Boards.plain(1, 2);
        x.thing(0, 10, 0);
        int grant = Boards.asked(x, 1, 0, 0, 0);
        int more = x.twice(grant);
        Boards.lettersUpTo(x, 0, 0, 0, 0, 396);
        Check.due("room for 4", x.deliver(3), 1);
        Check.due("a NO", x.count(4), 397);
        Check.due("room for 3", x.deliver(grant), 1);
        Check.due("no answer to that", x.count(4), 397);
        Check.due("room for 3 once more", x.deliver(4), 1);
        Check.due("room for 2", x.deliver(5), -4);
        Check.due("to a worker, too", x.deliver(more), -4);
        Check.due("under way", x.letter(5, 6), 0);
        Check.due("no letter", x.count(4), 398);
        Check.due("STATE is ahead of FULL", x.deliver(4), -3);
        Check.due("BAD is ahead of FULL", x.deliver(398), -2);
        Check.due("lose is never FULL", x.lose(5), 1);
        Check.due("twice", x.twice(5), 398);
        Check.due("twice", x.twice(5), 399);
        Check.due("twice is FULL", x.twice(5), -4);
        Check.due("BAD is ahead of FULL", x.twice(400), -2);
        Check.due("lookup of the last", x.letter(399, 0), 0);
    }

    private static void loses() {
        LeaseBoard x = Boards.plain(1, 1);
        x.thing(0, 10, 0);
        int l = x.ask(0, 0, 0, 0, 0);
        Check.due("under way", x.count(5), 1);
        Check.due("lose", x.lose(l), 1);
        Check.due("lost", x.letter(l, 6), 2);
        Check.due("none under way", x.count(5), 0);
        Check.due("lose again", x.lose(l), -3);
        Check.due("the worker waits on", x.holds(0, 0, 4), 1);
        int more = x.twice(l);
        Check.due("deliver", x.deliver(more), 1);
        Check.due("lose a delivered one", x.lose(more), -3);
    }

    private static void doubles() {
        LeaseBoard x = new LeaseBoard(0);
        x.keeper(0, 1000);
        x.keeper(0, 1000);
        for (int i = 0; i < 3; i++) {
            x.worker(100 * i, 1000);
            x.thing(2, 10, 50);
        }
        x.lead(1);
        x.ask(2, 1, 1, 0, 49);
        x.tick(5);
        Check.due("deliver", x.deliver(0), 1);
        Check.due("twice of a delivered one", x.twice(0), 2);
        Check.due("twice of one under way", x.twice(1), 3);
        for (int what = 0; what < 6; what++) {
            Check.due("ASK like it", x.letter(2, what), x.letter(0, what));
            Check.due("GRANT like it", x.letter(3, what), x.letter(1, what));
        }
        for (int what = 0; what < 3; what++) {
            Check.due("ASK like it", x.wrote(2, what), x.wrote(0, what));
            Check.due("GRANT like it", x.wrote(3, what), x.wrote(1, what));
        }
        Check.due("under way", x.letter(2, 6), 0);
        Check.due("the one as it was", x.letter(0, 6), 1);
        Check.due("lose", x.lose(3), 1);
        Check.due("twice of a lost one", x.twice(3), 4);
        Check.due("under way", x.letter(4, 6), 0);
        Check.due("its own way", x.letter(3, 6), 2);
        Check.due("five", x.count(4), 5);
        Check.due("three under way", x.count(5), 3);
    }

    private static void tells() {
        LeaseBoard x = Boards.plain(1, 1);
        x.thing(0, 10, 0);
        int l = x.ask(0, 0, 0, 0, 0);
        for (int n : WRONG) {
            Check.due("letter " + n, x.letter(n, 0), -2);
            Check.due("letter what " + n, x.letter(l, n), -2);
            Check.due("wrote " + n, x.wrote(n, 0), LeaseBoard.NO);
            Check.due("wrote what " + n, x.wrote(l, n), LeaseBoard.NO);
        }
        Check.due("what 7", x.letter(l, 7), -2);
        Check.due("what 3", x.wrote(l, 3), LeaseBoard.NO);
        Check.due("the next", x.letter(l + 1, 0), -2);
        Check.due("the next", x.wrote(l + 1, 0), LeaseBoard.NO);
    }

    private static void answerIs(LeaseBoard x, int l, int[] whats, long[] wrotes) {
        for (int what = 0; what < whats.length; what++) {
            Check.due("answer " + l + ", " + what, x.letter(l, what), whats[what]);
        }
        for (int what = 0; what < wrotes.length; what++) {
            Check.due("answer " + l + " wrote " + what, x.wrote(l, what), wrotes[what]);
        }
    }

    private static void answers() {
        LeaseBoard x = new LeaseBoard(0);
        x.keeper(0, 1000);
        x.keeper(7, 1000);
        for (int i = 0; i < 3; i++) {
            x.worker(-50 * i, 1000);
            x.thing(2, 10, 9);
        }
        x.lead(1);
        x.tick(3);
        int ask = x.ask(1, 1, 2, 0, 6);
        x.tick(1);
        int grant = Boards.answered(x, ask);
        answerIs(x, grant, new int[] {4, 1, 1, 2, 0, 6, 0}, new long[] {1, -47, 1});
        ask = x.ask(2, 1, 2, 0, 4);
        int no = Boards.answered(x, ask);
        answerIs(x, no, new int[] {5, 2, 1, 2, 0, 0, 0}, new long[] {0, -96, 1});
        x.deliver(grant);
        int renew = x.renew(1, 1, 2);
        int like = x.twice(renew);
        grant = Boards.answered(x, renew);
        answerIs(x, grant, new int[] {4, 1, 1, 2, 0, 6, 0}, new long[] {1, -46, 2});
        x.tick(50);
        int late = Boards.answered(x, like);
        answerIs(x, late, new int[] {7, 1, 1, 2, 0, 0, 0}, new long[] {1, 0, 0});
        Check.due("LATEs", x.count(11), 1);
        Check.due("NOs", x.count(10), 1);
        x.twice(late);
        x.twice(no);
        Check.due("LATEs, those alike aside", x.count(11), 1);
        Check.due("NOs, those alike aside", x.count(10), 1);
        readersAnswers();
    }

    /** A NO and a LATE have MODE 0, though READ was asked. */
    private static void readersAnswers() {
        LeaseBoard x = Boards.plain(1, 2);
        x.thing(1, 10, 0);
        x.thing(4, 10, 0);
        int grant = Boards.asked(x, 0, 0, 1, 0);
        Check.due("GRANT with READ", x.letter(grant, 4), 1);
        x.deliver(grant);
        int no = Boards.asked(x, 0, 0, 1, 0);
        answerIs(x, no, new int[] {5, 0, 0, 0, 0, 0, 0}, new long[] {0, 0, 2});
        int renew = x.renew(0, 0, 0);
        Check.due("RENEW with READ", x.letter(renew, 4), 1);
        x.tick(20);
        int late = Boards.answered(x, renew);
        answerIs(x, late, new int[] {7, 0, 0, 0, 0, 0, 0}, new long[] {1, 0, 0});
        Boards.taken(x, 0, 1, 0, 0);
        Boards.asked(x, 1, 1, 0, 0);
        int turn = Boards.answered(x, x.end(0, 0, 1));
        answerIs(x, turn, new int[] {6, 1, 0, 1, 0, 0, 0}, new long[] {0, 0, 0});
    }

    private static void grantsComeLate() {
        LeaseBoard x = Boards.plain(1, 2);
        x.thing(0, 10, 0);
        int grant = Boards.asked(x, 0, 0, 0, 0);
        int more = x.twice(grant);
        x.tick(9);
        Check.due("in time", x.deliver(grant), 1);
        Check.due("it may use it", x.holds(0, 0, 0), 1);
        Check.due("until", x.held(0, 0, 1), 10);
        Boards.ended(x, 0, 0);
        Check.due("one like it", x.deliver(more), 1);
        Check.due("it waits for it no more", x.holds(0, 0, 1), 0);
        grant = Boards.asked(x, 1, 0, 0, 0);
        x.tick(10);
        Check.due("ASKED + L is not above its CLOCK", x.deliver(grant), 1);
        Check.due("it does not hold it", x.holds(1, 0, 1), 0);
        Check.due("nor wait", x.holds(1, 0, 4), 0);
    }

    private static void grantsTakeThePlace() {
        LeaseBoard x = Boards.plain(1, 1);
        x.thing(3, 10, 0);
        Boards.taken(x, 0, 0, 1, 0);
        x.tick(2);
        int grant = Boards.answered(x, x.rise(0, 0, 0));
        x.tick(10);
        Check.due("a GRANT too late", x.deliver(grant), 1);
        Check.due("what it held it holds", x.holds(0, 0, 2), 1);
        Check.due("with its NUMBER", x.held(0, 0, 0), 1);
        Check.due("it waits no more", x.holds(0, 0, 4), 0);
        x.tick(20);
        x.look(0);
        Boards.taken(x, 0, 0, 0, 0);
        Check.due("in place of what it held", x.holds(0, 0, 2), 0);
        Check.due("its NUMBER", x.held(0, 0, 0), 3);
        Check.due("until", x.held(0, 0, 1), 42);
    }

    private static void lates() {
        LeaseBoard x = Boards.plain(1, 1);
        x.thing(0, 10, 0);
        Boards.taken(x, 0, 0, 0, 0);
        x.tick(12);
        int late = Boards.answered(x, x.renew(0, 0, 0));
        Check.due("a LATE", x.letter(late, 0), 7);
        int more = x.twice(late);
        int old = x.twice(late);
        x.deliver(late);
        Check.due("holds no more", x.holds(0, 0, 1), 0);
        Check.due("waits on: a LATE has no MARK", x.holds(0, 0, 4), 1);
        Check.due("once more", x.deliver(more), 1);
        Boards.taken(x, 0, 0, 0, 0);
        Check.due("NUMBER 2", x.held(0, 0, 0), 2);
        x.deliver(old);
        Check.due("that NUMBER it holds no more", x.holds(0, 0, 1), 1);
    }

    private static void noAndTurn() {
        LeaseBoard x = Boards.plain(1, 2);
        x.thing(4, 10, 0);
        Boards.taken(x, 0, 0, 0, 0);
        Boards.asked(x, 1, 0, 0, 0);
        int no = Boards.asked(x, 0, 0, 0, 0);
        int like = x.twice(no);
        x.deliver(no);
        Check.due("it holds what it held", x.holds(0, 0, 1), 1);
        Check.due("it waits no more", x.holds(0, 0, 4), 0);
        x.renew(0, 0, 0);
        x.deliver(like);
        Check.due("another MARK", x.holds(0, 0, 4), 1);
        int turn = Boards.answered(x, x.end(0, 0, 0));
        Check.due("a TURN", x.letter(turn, 0), 6);
        int more = x.twice(turn);
        int last = x.twice(turn);
        Check.due("sent, not counted", x.count(12), 0);
        x.deliver(turn);
        Check.due("counted", x.count(12), 1);
        Check.due("it waits on", x.holds(1, 0, 4), 1);
        x.wake(1, 1, false);
        Check.due("asleep", x.deliver(more), 0);
        Check.due("not counted", x.count(12), 1);
        x.wake(1, 1, true);
        x.deliver(last);
        Check.due("one like it counts", x.count(12), 2);
    }
}
