/** Promises 11 to 14: ask, renew, end, rise; with the MARKS and what the CLOCK showed. */
public final class ActsTest {
    private static final int[] WRONG = {Integer.MIN_VALUE, -1, 3, Integer.MAX_VALUE};

    public static void main(String[] args) {
        askIsBad();
        askLetter();
        askWaits();
        askFull();
        renews();
        ends();
        rises();
        holdersOnly();
        marks();
        Check.end();
    }

    private static LeaseBoard withKinds() {
        LeaseBoard x = Boards.plain(3, 3);
        for (int kind = 0; kind < 5; kind++) {
            Check.due("thing", x.thing(kind, 10, kind == 2 ? 7 : 0), kind);
        }
        return x;
    }

    private static void askIsBad() {
        LeaseBoard x = withKinds();
        for (int n : WRONG) {
            Check.due("worker " + n, x.ask(n, 0, 0, 0, 0), -2);
            Check.due("keeper " + n, x.ask(0, n, 0, 0, 0), -2);
            Check.due("thing " + n, x.ask(0, 0, n == 3 ? 5 : n, 0, 0), -2);
            Check.due("mode " + n, x.ask(0, 0, 1, n, 0), -2);
            Check.due("parts " + n, x.ask(0, 0, 0, 0, n), -2);
            Check.due("parts of COUNTED " + n, x.ask(0, 0, 2, 0, n == 3 ? 8 : n), -2);
        }
        Check.due("mode 2", x.ask(0, 0, 3, 2, 0), -2);
        Check.due("READ of ONLY", x.ask(0, 0, 0, 1, 0), -2);
        Check.due("READ of COUNTED", x.ask(0, 0, 2, 1, 1), -2);
        Check.due("READ of WAITING", x.ask(0, 0, 4, 1, 0), -2);
        Check.due("parts of SHARED", x.ask(0, 0, 1, 1, 1), -2);
        Check.due("parts of RISING", x.ask(0, 0, 3, 0, 1), -2);
        Check.due("parts of WAITING", x.ask(0, 0, 4, 0, 1), -2);
        Check.due("no parts of COUNTED", x.ask(0, 0, 2, 0, 0), -2);
        x.wake(1, 0, false);
        Check.due("BAD is ahead of STATE", x.ask(0, 0, 0, 1, 0), -2);
        Check.due("STATE", x.ask(0, 0, 0, 0, 0), -3);
        Check.due("no letter of it", x.count(4), 0);
        Check.due("no waiting of it", x.holds(0, 0, 4), 0);
        int[][] fine = {{0, 0, 0}, {1, 0, 0}, {1, 1, 0}, {2, 0, 1}, {2, 0, 7}, {3, 0, 0}, {3, 1, 0}, {4, 0, 0}};
        for (int i = 0; i < fine.length; i++) {
            Check.due("ask", x.ask(1, 0, fine[i][0], fine[i][1], fine[i][2]), i);
        }
    }

    private static void askLetter() {
        LeaseBoard x = new LeaseBoard(10);
        x.keeper(0, 1000);
        x.keeper(0, 1000);
        x.worker(0, 1000);
        x.worker(-900, 1010);
        x.thing(0, 10, 0);
        x.thing(2, 10, 9);
        x.tick(1000);
        x.wake(0, 1, false);
        Check.due("a keeper that sleeps may be asked", x.ask(1, 1, 1, 0, 9), 0);
        Boards.letterIs(x, 0, 0, 1, 1, 1, 0, 9, 0);
        Boards.wroteIs(x, 0, 0, -900 + 1010, 1);
        x.thing(3, 10, 0);
        Check.due("READ", x.ask(0, 0, 2, 1, 0), 1);
        Boards.letterIs(x, 1, 0, 0, 0, 2, 1, 0, 0);
        Boards.wroteIs(x, 1, 0, 1000, 1);
    }

    private static void askWaits() {
        LeaseBoard x = Boards.plain(1, 2);
        x.thing(1, 10, 0);
        x.thing(1, 10, 0);
        int first = x.ask(0, 0, 0, 1, 0);
        Check.due("waits", x.holds(0, 0, 4), 1);
        Check.due("of that thing alone", x.holds(0, 1, 4), 0);
        Check.due("that worker alone", x.holds(1, 0, 4), 0);
        int second = x.ask(0, 0, 0, 1, 0);
        x.ask(0, 0, 1, 1, 0);
        int grant = Boards.answered(x, first);
        x.deliver(grant);
        Check.due("it waits for another one", x.holds(0, 0, 1), 0);
        Check.due("and waits on", x.holds(0, 0, 4), 1);
        int no = Boards.answered(x, second);
        Check.due("a NO, as it has one", x.letter(no, 0), 5);
        x.deliver(no);
        Check.due("waits no more", x.holds(0, 0, 4), 0);
        Check.due("but of the other thing", x.holds(0, 1, 4), 1);
    }

    private static void askFull() {
        LeaseBoard x = Boards.plain(1, 2);
        x.thing(3, 10, 0);
        x.thing(0, 10, 0);
        Boards.taken(x, 1, 0, 1, 0);
        Boards.lettersUpTo(x, 0, 0, 1, 0, 400);
        Check.due("ask", x.ask(0, 0, 1, 0, 0), -4);
        Check.due("it does not wait by that", x.holds(0, 1, 4), 0);
        Check.due("renew", x.renew(1, 0, 0), -4);
        Check.due("rise", x.rise(1, 0, 0), -4);
        Check.due("end", x.end(1, 0, 0), -4);
        Check.due("it does not wait", x.holds(1, 0, 4), 0);
        Check.due("it holds on", x.holds(1, 0, 1), 1);
        Check.due("STATE is ahead of FULL", x.renew(0, 0, 0), -3);
        Check.due("400", x.count(4), 400);
        LeaseBoard y = Boards.plain(1, 2);
        y.thing(3, 10, 0);
        Boards.taken(y, 1, 0, 1, 0);
        Boards.lettersUpTo(y, 0, 0, 1, 0, 397);
        Check.due("the third last", y.renew(1, 0, 0), 397);
        Check.due("the second last", y.rise(1, 0, 0), 398);
        Check.due("the last", y.end(1, 0, 0), 399);
    }

    private static void renews() {
        LeaseBoard x = withKinds();
        Boards.taken(x, 1, 2, 0, 5);
        Boards.taken(x, 1, 3, 1, 0);
        x.tick(4);
        int l = x.renew(1, 2, 2);
        Boards.letterIs(x, l, 1, 1, 2, 2, 0, 5, 0);
        Boards.wroteIs(x, l, 1, 4, 3);
        Check.due("waits", x.holds(1, 2, 4), 1);
        Check.due("holds on", x.holds(1, 2, 1), 1);
        l = x.renew(1, 0, 3);
        Boards.letterIs(x, l, 1, 1, 0, 3, 1, 0, 0);
        Boards.wroteIs(x, l, 1, 4, 4);
        x.tick(100);
        Check.due("it holds it, though it may not use it", x.renew(1, 0, 3), l + 1);
    }

    private static void ends() {
        LeaseBoard x = withKinds();
        Boards.taken(x, 1, 2, 0, 5);
        Boards.taken(x, 1, 1, 1, 0);
        x.tick(4);
        x.renew(1, 0, 2);
        int l = x.end(1, 1, 2);
        Boards.letterIs(x, l, 2, 1, 1, 2, 0, 5, 0);
        Boards.wroteIs(x, l, 1, 0, 0);
        Check.due("holds no more", x.holds(1, 2, 1), 0);
        Check.due("waits no more", x.holds(1, 2, 4), 0);
        Check.due("the other it holds", x.holds(1, 1, 1), 1);
        Check.due("once more", x.end(1, 1, 2), -3);
        x.tick(1000);
        l = x.end(1, 0, 1);
        Boards.letterIs(x, l, 2, 1, 0, 1, 1, 0, 0);
        Check.due("the board knows not of it yet", x.told(1, 4), 1);
    }

    private static void rises() {
        LeaseBoard x = withKinds();
        Boards.taken(x, 1, 1, 1, 0);
        Boards.taken(x, 1, 3, 1, 0);
        Boards.taken(x, 2, 3, 1, 0);
        x.tick(3);
        for (int thing : new int[] {0, 1, 2, 4, -1, 5, Integer.MAX_VALUE}) {
            Check.due("not RISING " + thing, x.rise(1, 0, thing), -2);
        }
        int l = x.rise(2, 1, 3);
        Boards.letterIs(x, l, 3, 2, 1, 3, 0, 0, 0);
        Boards.wroteIs(x, l, 2, 3, 2);
        Check.due("waits", x.holds(2, 3, 4), 1);
        Check.due("holds READ as before", x.holds(2, 3, 2), 1);
        Check.due("it does not hold it", x.rise(0, 0, 3), -3);
    }

    private static void holdersOnly() {
        LeaseBoard x = withKinds();
        Boards.taken(x, 0, 3, 1, 0);
        for (int n : WRONG) {
            Check.due("renew worker " + n, x.renew(n, 0, 3), -2);
            Check.due("renew keeper " + n, x.renew(0, n, 3), -2);
            Check.due("renew thing " + n, x.renew(0, 0, n == 3 ? 5 : n), -2);
            Check.due("end worker " + n, x.end(n, 0, 3), -2);
            Check.due("end keeper " + n, x.end(0, n, 3), -2);
            Check.due("end thing " + n, x.end(0, 0, n == 3 ? 5 : n), -2);
            Check.due("rise worker " + n, x.rise(n, 0, 3), -2);
            Check.due("rise keeper " + n, x.rise(0, n, 3), -2);
        }
        Check.due("renew what it does not hold", x.renew(0, 0, 0), -3);
        Check.due("end what it does not hold", x.end(0, 0, 0), -3);
        Check.due("renew of one that holds nothing", x.renew(1, 0, 3), -3);
        int before = x.count(4);
        x.wake(1, 0, false);
        Check.due("renew asleep", x.renew(0, 0, 3), -3);
        Check.due("end asleep", x.end(0, 0, 3), -3);
        Check.due("rise asleep", x.rise(0, 0, 3), -3);
        Check.due("no letter", x.count(4), before);
        Check.due("it holds on", x.holds(0, 3, 1), 1);
    }

    private static void marks() {
        LeaseBoard x = withKinds();
        Boards.taken(x, 0, 3, 1, 0);
        int renew = x.renew(0, 0, 3);
        int rise = x.rise(0, 0, 3);
        x.twice(rise);
        int ask = x.ask(0, 0, 0, 0, 0);
        int other = x.ask(1, 0, 0, 0, 0);
        int end = x.end(0, 0, 3);
        int next = x.ask(0, 0, 3, 1, 0);
        Check.due("renew", x.wrote(renew, 2), 2);
        Check.due("rise", x.wrote(rise, 2), 3);
        Check.due("of another thing", x.wrote(ask, 2), 4);
        Check.due("of another worker", x.wrote(other, 2), 1);
        Check.due("END has none", x.wrote(end, 2), 0);
        Check.due("and is not counted", x.wrote(next, 2), 5);
    }
}
