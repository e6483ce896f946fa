/** The bounds of promises 8 to 10 and of MOST, TERM and LEADER, each by its sentence. */
public final class BoundsKeepersTest {
    private static final int LEAST = Integer.MIN_VALUE, MOST = Integer.MAX_VALUE;

    public static void main(String[] args) {
        mostOfThem();
        termAtFirst();
        wakes();
        leaderThatSleeps();
        wakeIsBad();
        falls();
        fallsWithAll();
        fallIsBad();
        leads();
        endsOfGrants();
        endsOfCalled();
        leadIsRefused();
        boardIsSaved();
        Check.end();
    }

    /** So many keepers, of whom so many are awake, keeper 0 among them and leading since all were. */
    private static Scene keepers(int all, int awake) {
        return new Scene(0, x -> {
            for (int k = 0; k < all; k++) {
                x.keeper(0, 1000);
            }
            x.worker(0, 1000);
            x.thing(0, 10, 0);
            x.lead(0);
            x.ask(0, 0, 0, 0, 0);
            for (int k = awake; k < all; k++) {
                x.wake(0, k, false);
            }
        });
    }

    private static void mostOfThem() {
        Document.terms("MOST of the KEEPERS are more than half of them.");
        int[] least = {0, 1, 2, 2, 3, 3};
        for (int all = 1; all <= 5; all++) {
            for (int awake = 1; awake <= all; awake++) {
                String so = " with " + awake + " of " + all;
                Scene s = keepers(all, awake);
                boolean most = awake >= least[all];
                s.answers("awake" + so, awake, x -> x.count(6));
                s.answers("the LEADER stays" + so, 0, x -> x.count(7));
                s.answers("lead" + so, most ? 2 : -3, x -> x.lead(0));
                s.answers("look" + so, most ? 0 : -3, x -> x.look(0));
                s.answers("deliver" + so, most ? 1 : 0, x -> x.deliver(0));
            }
        }
        keepers(1, 1).then(x -> x.keeper(0, 1000)).answers("two of two", 2, x -> x.lead(1));
        Scene grown = keepers(2, 2).then(x -> {
            x.wake(0, 1, false);
            x.keeper(0, 1000);
        });
        grown.answers("one more that comes counts", 0, x -> x.look(0));
        Scene few = keepers(3, 1).then(x -> x.keeper(0, 1000));
        few.answers("two of four are not MOST", -3, x -> x.look(0));
        few.answers("the LEADER stays, though one came", 0, x -> x.count(7));
        few.then(x -> x.wake(0, 2, true)).answers("three of four: it leads on", 0, x -> x.look(0));
        few.then(x -> x.wake(0, 2, true)).answers("in its TERM", 1, x -> x.count(8));
    }

    private static void termAtFirst() {
        Document.terms("TERM is 0 at first; there may be a LEADER.");
        Scene s = new Scene(0, x -> {
            x.keeper(0, 1000);
            x.worker(0, 1000);
            x.thing(0, 10, 0);
            x.ask(0, 0, 0, 0, 0);
        });
        s.answers("TERM", 0, x -> x.count(8));
        s.answers("no LEADER", -1, x -> x.count(7));
        s.refuses("look", -3, x -> x.look(0));
        s.answers("deliver", 0, x -> x.deliver(0));
        s.answers("the first TERM", 1, x -> x.lead(0));
    }

    private static void wakes() {
        Document.says(8, "A KEEPER (what 0), a WORKER (1) is AWAKE (true), or not: 1 if it was otherwise, else 0.");
        Scene busy = Boards.busy();
        busy.refuses("a keeper that is awake", 0, x -> x.wake(0, 2, true));
        busy.refuses("a worker that is awake", 0, x -> x.wake(1, 3, true));
        busy.answers("a keeper sleeps", 1, x -> x.wake(0, 2, false));
        busy.answers("a worker sleeps", 1, x -> x.wake(1, 3, false));
        Scene asleep = busy.then(x -> {
            x.wake(0, 2, false);
            x.wake(1, 1, false);
        });
        asleep.refuses("a keeper that sleeps", 0, x -> x.wake(0, 2, false));
        asleep.refuses("a worker that sleeps", 0, x -> x.wake(1, 1, false));
        asleep.answers("a keeper wakes", 1, x -> x.wake(0, 2, true));
        asleep.answers("a worker wakes", 1, x -> x.wake(1, 1, true));
        asleep.answers("two are awake", 2, x -> x.count(6));
        asleep.answers("a worker's memory stays", 1, x -> x.holds(1, 1, 1));
        Picture.alike("asleep and awake again", busy, asleep.then(x -> {
            x.wake(0, 2, true);
            x.wake(1, 1, true);
        }));
    }

    private static void leaderThatSleeps() {
        Document.says(8, "A LEADER that is not AWAKE any more is none.");
        Scene busy = Boards.busy();
        busy.answers("LEADER", 0, x -> x.count(7));
        Scene none = busy.then(x -> x.wake(0, 0, false));
        none.answers("none", -1, x -> x.count(7));
        none.answers("the TERM stays", 1, x -> x.count(8));
        none.answers("none leads, though MOST are awake", -3, x -> x.look(0));
        none.then(x -> x.wake(0, 0, true)).answers("awake again, it leads no more", -1, x -> x.count(7));
        busy.then(x -> x.wake(1, 0, false)).answers("a WORKER of its number", 0, x -> x.count(7));
        busy.then(x -> x.wake(0, 1, false)).answers("another KEEPER", 0, x -> x.count(7));
        busy.then(x -> x.wake(0, 0, true)).answers("awake as before", 0, x -> x.count(7));
    }

    private static void wakeIsBad() {
        Document.says(8, "BAD.");
        Scene busy = Boards.busy();
        int[][] bad = {{0, 3}, {0, -1}, {0, LEAST}, {0, MOST}, {1, 4}, {1, -1}, {1, LEAST}, {1, MOST}, {2, 0}, {-1, 0},
            {LEAST, 0}, {MOST, 0}};
        for (int[] n : bad) {
            busy.refuses("wake(" + n[0] + ", " + n[1] + ", false)", -2, x -> x.wake(n[0], n[1], false));
            busy.refuses("wake(" + n[0] + ", " + n[1] + ", true)", -2, x -> x.wake(n[0], n[1], true));
        }
        new Scene(0, x -> { }).refuses("none yet", -2, x -> x.wake(0, 0, true));
    }

    private static void falls() {
        Document.says(9, "A WORKER falls: it HOLDS nothing, WAITS for nothing, is not AWAKE: how many THINGS it HELD "
            + "(by its memory).");
        Scene busy = Boards.busy();
        busy.answers("4 THINGS", 4, x -> x.fall(0));
        busy.answers("3 THINGS", 3, x -> x.fall(1));
        busy.answers("none", 0, x -> x.fall(2));
        busy.answers("none, but it waits", 0, x -> x.fall(3));
        busy.then(x -> x.tick(1000)).answers("held by its memory, though late", 4, x -> x.fall(0));
        busy.then(x -> x.wake(1, 0, false)).answers("asleep already", 4, x -> x.fall(0));
        Scene fallen = busy.then(x -> {
            x.fall(0);
            x.fall(3);
        });
        for (int t = 0; t < 5; t++) {
            int thing = t;
            fallen.answers("it holds nothing", 0, x -> x.holds(0, thing, 1));
            fallen.answers("it waits for nothing", 0, x -> x.holds(0, thing, 4) + x.holds(3, thing, 4));
        }
        fallen.refuses("once more", 0, x -> x.fall(0));
        fallen.refuses("it is not awake", -3, x -> x.ask(0, 0, 0, 0, 0));
        fallen.answers("another's memory stays", 1, x -> x.holds(1, 1, 1));
        fallen.answers("THE BOARD stays", 2, x -> x.told(1, 4));
        fallen.answers("the RISER stays", 0, x -> x.told(3, 5));
        fallen.then(x -> x.wake(1, 3, true)).answers("its MARKS go on", 2, x -> x.wrote(x.ask(3, 0, 0, 0, 0), 2));
    }

    private static void fallsWithAll() {
        LeaseBoard x = Boards.plain(1, 2);
        for (int t = 0; t < 20; t++) {
            x.thing(0, 10, 0);
            Boards.taken(x, 1, t, 0, 0);
        }
        Check.due("all 20", x.fall(1), 20);
        Check.due("none of them", x.holds(1, 0, 1) + x.holds(1, 19, 1), 0);
        Check.due("once more", x.fall(1), 0);
        Check.due("a worker without a thing", new Scene(0, y -> y.worker(0, 1000)).board().fall(0), 0);
    }

    private static void fallIsBad() {
        Document.says(9, "BAD.");
        Scene busy = Boards.busy();
        for (int n : new int[] {4, 20, -1, LEAST, MOST}) {
            busy.refuses("fall(" + n + ")", -2, x -> x.fall(n));
        }
        new Scene(0, x -> x.keeper(0, 1000)).refuses("none yet", -2, x -> x.fall(0));
    }

    private static void leads() {
        Document.says(10, "A KEEPER LEADS: TERM is one more;");
        Scene busy = Boards.busy();
        for (int keeper = 0; keeper < 3; keeper++) {
            int k = keeper;
            busy.answers("TERM", 2, x -> x.lead(k));
            busy.then(x -> x.lead(k)).answers("TERM", 2, x -> x.count(8));
            busy.then(x -> x.lead(k)).answers("LEADER", k, x -> x.count(7));
            busy.then(x -> x.lead(k)).answers("and once more", 3, x -> x.lead(k));
        }
        busy.then(x -> {
            x.lead(1);
            x.lead(0);
        }).answers("in turn", 4, x -> x.lead(2));
    }

    private static void endsOfGrants() {
        Document.says(10, "the ENDS of all GRANTS, and of those that are CALLED, become its CLOCK and the LONG of their THINGS: "
            + "TERM.");
        Scene led = Boards.busy().then(x -> {
            x.tick(96);
            x.lead(2);
        });
        int[] longs = {13, 23, 33, 43};
        int[] grants = {1, 2, 2, 2};
        for (int t = 0; t < longs.length; t++) {
            int thing = t;
            led.answers("LONG", longs[t], x -> x.told(thing, 2));
            led.answers("none went, though late", grants[t], x -> x.told(thing, 4));
            for (int i = 0; i < grants[t]; i++) {
                int at = i;
                led.answers("END " + i + " of " + t, -500 + 99 + longs[t], x -> x.ends(thing, at, 1));
                led.answers("NUMBER " + i + " of " + t, i + 1, x -> x.ends(thing, at, 0));
            }
        }
        led.answers("the RISER stays", 0, x -> x.told(3, 5));
        led.answers("no GRANT is counted", 8, x -> x.count(9));
        led.answers("no NO", 0, x -> x.count(10));
        Scene none = Boards.letters(7).then(x -> x.lead(1));
        none.answers("not CALLED, it stays so", 0, x -> x.told(1, 7));
    }

    /** CALLED at TIME 0 it had an END at 12; led anew at TIME 11, it has LONG from there on, by the new LEADER's CLOCK. */
    private static void endsOfCalled() {
        Scene led = new Scene(0, x -> {
            x.keeper(0, 1000);
            x.keeper(-70, 1000);
            for (int w = 0; w < 3; w++) {
                x.worker(0, 1000);
            }
            x.thing(4, 10, 0);
            x.lead(0);
            Boards.taken(x, 0, 0, 0, 0);
            Boards.asked(x, 1, 0, 0, 0);
            Boards.asked(x, 2, 0, 0, 0);
            Boards.ended(x, 0, 0);
            x.tick(11);
            x.lead(1);
        });
        led.answers("CALLED", 1, x -> x.told(0, 7));
        led.then(x -> x.tick(11)).answers("looked at before its END", 1, x -> {
            x.look(0);
            return x.told(0, 9);
        });
        led.then(x -> x.tick(12)).answers("looked at its END", 2, x -> {
            x.look(0);
            return x.told(0, 9);
        });
    }

    private static void leadIsRefused() {
        Document.says(10, "BAD; STATE: it is not AWAKE, or not MOST of the KEEPERS are.");
        Scene busy = Boards.busy().then(x -> x.tick(50));
        for (int n : new int[] {3, 5, -1, LEAST, MOST}) {
            busy.refuses("lead(" + n + ")", -2, x -> x.lead(n));
        }
        Scene one = busy.then(x -> x.wake(0, 2, false));
        one.refuses("it is not AWAKE", -3, x -> x.lead(2));
        one.answers("MOST are", 2, x -> x.lead(1));
        Scene two = one.then(x -> x.wake(0, 1, false));
        two.refuses("AWAKE, but not MOST are", -3, x -> x.lead(0));
        two.refuses("neither", -3, x -> x.lead(1));
        two.refuses("none such", -2, x -> x.lead(3));
        new Scene(0, x -> { }).refuses("none yet", -2, x -> x.lead(0));
    }

    private static void boardIsSaved() {
        Document.terms("All of this is on THE BOARD that all KEEPERS save.");
        Scene led = Boards.busy().then(x -> {
            x.wake(0, 0, false);
            x.lead(1);
        });
        int[] grants = {1, 2, 2, 2, 0};
        for (int t = 0; t < grants.length; t++) {
            int thing = t;
            led.answers("GRANTS of " + t, grants[t], x -> x.look(thing));
        }
        led.answers("RISER", 0, x -> x.told(3, 5));
        led.answers("QUEUE", 2, x -> x.told(4, 6));
        led.answers("its first", 1, x -> x.told(4, 9));
        led.answers("CALLED", 1, x -> x.told(4, 7));
        led.answers("the last NUMBER goes on", 2, x -> {
            x.deliver(x.ask(1, 1, 4, 0, 0));
            return x.ends(4, 0, 0);
        });
    }
}
