/** Promises 8 to 10: wake, fall, lead. */
public final class KeepersTest {
    public static void main(String[] args) {
        wakes();
        leaderThatSleeps();
        falls();
        leads();
        mostOfThem();
        leadSetsEnds();
        leadSetsCalled();
        Check.end();
    }

    private static void wakes() {
        LeaseBoard x = new LeaseBoard(0);
        x.keeper(0, 1000);
        x.worker(0, 1000);
        Check.due("keeper stays awake", x.wake(0, 0, true), 0);
        Check.due("keeper sleeps", x.wake(0, 0, false), 1);
        Check.due("keeper sleeps on", x.wake(0, 0, false), 0);
        Check.due("none awake", x.count(6), 0);
        Check.due("keeper wakes", x.wake(0, 0, true), 1);
        Check.due("one awake", x.count(6), 1);
        Check.due("worker stays awake", x.wake(1, 0, true), 0);
        Check.due("worker sleeps", x.wake(1, 0, false), 1);
        Check.due("worker sleeps on", x.wake(1, 0, false), 0);
        Check.due("worker wakes", x.wake(1, 0, true), 1);
        Check.due("what 2", x.wake(2, 0, true), -2);
        Check.due("what -1", x.wake(-1, 0, true), -2);
        Check.due("keeper 1", x.wake(0, 1, true), -2);
        Check.due("keeper -1", x.wake(0, -1, false), -2);
        Check.due("worker 1", x.wake(1, 1, true), -2);
        Check.due("worker least", x.wake(1, Integer.MIN_VALUE, true), -2);
    }

    private static void leaderThatSleeps() {
        LeaseBoard x = Boards.plain(3, 3);
        Check.due("leader", x.count(7), 0);
        x.wake(1, 0, false);
        Check.due("a worker of the same number", x.count(7), 0);
        x.wake(0, 1, false);
        Check.due("another keeper", x.count(7), 0);
        x.wake(0, 0, true);
        Check.due("awake as before", x.count(7), 0);
        x.wake(0, 0, false);
        Check.due("none", x.count(7), -1);
        x.wake(0, 0, true);
        Check.due("still none", x.count(7), -1);
        Check.due("the TERM stays", x.count(8), 1);
    }

    private static void falls() {
        LeaseBoard x = Boards.plain(1, 2);
        x.thing(1, 10, 0);
        x.thing(0, 10, 0);
        x.thing(0, 10, 0);
        Check.due("worker 2", x.fall(2), -2);
        Check.due("worker -1", x.fall(-1), -2);
        Boards.taken(x, 0, 0, 1, 0);
        Boards.taken(x, 1, 0, 1, 0);
        Boards.taken(x, 0, 1, 0, 0);
        int ask = x.ask(0, 0, 2, 0, 0);
        Check.due("it waits", x.holds(0, 2, 4), 1);
        x.tick(50);
        Check.due("by its memory, though late", x.fall(0), 2);
        Check.due("it holds nothing", x.holds(0, 0, 1) + x.holds(0, 1, 1), 0);
        Check.due("it waits for nothing", x.holds(0, 2, 4), 0);
        Check.due("another holds on", x.holds(1, 0, 1), 1);
        Check.due("it is not awake", x.ask(0, 0, 2, 0, 0), -3);
        Check.due("once more: nothing", x.fall(0), 0);
        Check.due("wakes", x.wake(1, 0, true), 1);
        Check.due("still holds nothing", x.holds(0, 1, 1), 0);
        int grant = Boards.answered(x, ask);
        Check.due("the GRANT comes", x.deliver(grant), 1);
        Check.due("it did not wait for it", x.holds(0, 2, 1), 0);
        int next = x.ask(0, 0, 2, 0, 0);
        Check.due("its MARKS go on", x.wrote(next, 2), 4);
        x.wake(1, 1, false);
        Check.due("one that sleeps has its memory", x.holds(1, 0, 1), 1);
        Check.due("and falls", x.fall(1), 1);
    }

    private static void leads() {
        LeaseBoard x = new LeaseBoard(0);
        Check.due("no keeper", x.lead(0), -2);
        for (int i = 0; i < 3; i++) {
            x.keeper(0, 1000);
        }
        Check.due("keeper 3", x.lead(3), -2);
        Check.due("keeper -1", x.lead(-1), -2);
        Check.due("no TERM of it", x.count(8), 0);
        Check.due("lead(2)", x.lead(2), 1);
        Check.due("leader 2", x.count(7), 2);
        Check.due("lead(2) once more", x.lead(2), 2);
        Check.due("lead(1)", x.lead(1), 3);
        Check.due("leader 1", x.count(7), 1);
        x.wake(0, 0, false);
        Check.due("not awake", x.lead(0), -3);
        Check.due("leader still 1", x.count(7), 1);
        Check.due("TERM still 3", x.count(8), 3);
    }

    private static void mostOfThem() {
        LeaseBoard x = new LeaseBoard(0);
        x.keeper(0, 1000);
        Check.due("one of one", x.lead(0), 1);
        x.keeper(0, 1000);
        x.wake(0, 1, false);
        Check.due("one of two is not most", x.lead(0), -3);
        Check.due("leader as before", x.count(7), 0);
        x.keeper(0, 1000);
        Check.due("two of three", x.lead(0), 2);
        x.keeper(0, 1000);
        x.keeper(0, 1000);
        x.wake(0, 2, false);
        Check.due("three of five", x.lead(0), 3);
        x.wake(0, 3, false);
        Check.due("two of five", x.lead(0), -3);
    }

    private static void leadSetsEnds() {
        LeaseBoard x = new LeaseBoard(100);
        x.keeper(0, 1000);
        x.keeper(-5000, 900);
        x.worker(0, 1000);
        x.worker(0, 1000);
        x.thing(1, 9, 0);
        x.thing(0, 90, 0);
        x.lead(0);
        Boards.taken(x, 0, 0, 1, 0);
        Boards.taken(x, 1, 0, 1, 0);
        Boards.taken(x, 1, 1, 0, 0);
        Check.due("END by the first", x.ends(0, 0, 1), 13);
        x.tick(100);
        Check.due("lead(1)", x.lead(1), 2);
        Check.due("GRANT 0", x.ends(0, 0, 1), -5000 + 90 + 13);
        Check.due("GRANT 1", x.ends(0, 1, 1), -5000 + 90 + 13);
        Check.due("of the other thing", x.ends(1, 0, 1), -5000 + 90 + 112);
        Check.due("the NUMBER stays", x.ends(0, 1, 0), 2);
        Check.due("not GRANTED anew", x.count(9), 3);
        Check.due("though late before, it is there", x.look(0), 2);
        x.wake(0, 0, false);
        Check.due("a lead that is refused", x.lead(0), -3);
        Check.due("changes no END", x.ends(0, 0, 1), -5000 + 90 + 13);
    }

    private static void leadSetsCalled() {
        LeaseBoard x = Boards.plain(2, 3);
        Check.due("thing", x.thing(4, 10, 0), 0);
        Boards.taken(x, 0, 0, 0, 0);
        Boards.asked(x, 1, 0, 0, 0);
        Boards.asked(x, 2, 0, 0, 0);
        Check.due("not called yet, lead", x.lead(0), 2);
        Check.due("still not called", x.told(0, 7), 0);
        Boards.ended(x, 0, 0);
        Check.due("called", x.told(0, 7), 1);
        x.tick(11);
        Check.due("lead(1)", x.lead(1), 3);
        x.tick(11);
        x.look(0);
        Check.due("it has LONG anew", x.told(0, 9), 1);
        x.tick(1);
        x.look(0);
        Check.due("and then goes", x.told(0, 9), 2);
    }
}
