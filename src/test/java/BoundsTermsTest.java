/** The bounds that the first paragraph of the Terms names, each by its sentence. */
public final class BoundsTermsTest {
    public static void main(String[] args) {
        timeBegins();
        numberedFromZero();
        lettersNumbered();
        driftIsTold();
        clockBounds();
        clockIsCut();
        clockIsNoInt();
        awakeAtFirst();
        kinds();
        lengths();
        longs();
        constants();
        badComesFirst();
        stateComesNext();
        Check.end();
    }

    private static void timeBegins() {
        Document.terms("TIME begins at 0.");
        LeaseBoard x = new LeaseBoard(100);
        Check.due("TIME", x.tick(0), 0);
        Check.due("keeper", x.keeper(-3, 1100), 0);
        Check.due("worker", x.worker(4, 900), 0);
        Check.due("the keeper's clock", x.clock(0, 0), -3);
        Check.due("the worker's clock", x.clock(1, 0), 4);
        Check.due("the first tick", x.tick(1), 1);
    }

    private static void numberedFromZero() {
        Document.terms("KEEPERS (5 at most), WORKERS (20), THINGS (20), STORES (6), LETTERS (400) are numbered from 0 "
            + "as they come.");
        LeaseBoard x = new LeaseBoard(0);
        for (int i = 0; i < 20; i++) {
            Check.due("keeper " + i, x.keeper(0, 1000), i < 5 ? i : -4);
            Check.due("worker " + i, x.worker(0, 1000), i);
            Check.due("thing " + i, x.thing(0, 1, 0), i);
            Check.due("store " + i, x.store(), i < 6 ? i : -4);
        }
        Check.due("worker 20", x.worker(0, 1000), -4);
        Check.due("thing 20", x.thing(0, 1, 0), -4);
        int[] most = {5, 20, 20, 6};
        for (int what = 0; what < most.length; what++) {
            Check.due("count(" + what + ")", x.count(what), most[what]);
        }
        Check.due("the last keeper leads", x.lead(4), 1);
        Check.due("the last worker asks for the last thing", x.ask(19, 4, 19, 0, 0), 0);
        Check.due("deliver", x.deliver(0), 1);
        Check.due("deliver", x.deliver(1), 1);
        Check.due("it writes to the last store", x.write(19, 19, 5, 8), 1);
        Check.due("which has it", x.stored(5, 19, 1), 8);
    }

    /** Letters of workers, answers, TURNS and doubled ones come in one row; the last of all is number 399. */
    private static void lettersNumbered() {
        LeaseBoard x = Boards.plain(1, 2);
        x.thing(4, 10, 0);
        Check.due("an ASK", x.ask(0, 0, 0, 0, 0), 0);
        Check.due("deliver", x.deliver(0), 1);
        Check.due("the GRANT is 1", x.letter(1, 0), 4);
        Check.due("deliver", x.deliver(1), 1);
        Check.due("another ASK", x.ask(1, 0, 0, 0, 0), 2);
        Check.due("it comes to the queue", x.deliver(2), 1);
        Check.due("one doubled", x.twice(2), 3);
        Check.due("an END", x.end(0, 0, 0), 4);
        Check.due("deliver", x.deliver(4), 1);
        Check.due("the TURN is 5", x.letter(5, 0), 6);
        Check.due("six", x.count(4), 6);
        for (int i = 6; i < 400; i++) {
            Check.due("ASK", x.ask(1, 0, 0, 0, 0), i);
        }
        Check.due("no letter 400", x.ask(1, 0, 0, 0, 0), -4);
        Check.due("the last one", x.letter(399, 1), 1);
        Check.due("none behind", x.letter(400, 1), -2);
        Check.due("400", x.count(4), 400);
    }

    private static void driftIsTold() {
        Document.terms("DRIFT is 0 .. 100 (told at first).");
        for (int drift = 0; drift <= 100; drift++) {
            LeaseBoard x = new LeaseBoard(drift);
            Check.due("slowest of drift " + drift, x.keeper(0, 1000 - drift), 0);
            Check.due("fastest of drift " + drift, x.worker(0, 1000 + drift), 0);
            Check.due("too slow for drift " + drift, x.keeper(0, 999 - drift), -2);
            Check.due("too fast for drift " + drift, x.worker(0, 1001 + drift), -2);
        }
    }

    private static void clockBounds() {
        Document.terms("KEEPERS and WORKERS have a CLOCK: its BEGIN -1000000 .. 1000000 and a RATE 1000 - DRIFT .. "
            + "1000 + DRIFT;");
        int[][] taken = {{-1000000, 1000}, {1000000, 1000}, {0, 970}, {0, 1030}, {-1000000, 970}};
        int[][] not = {{-1000001, 1000}, {1000001, 1000}, {0, 969}, {0, 1031}, {0, 0}, {0, -1000},
            {Integer.MIN_VALUE, 1000}, {Integer.MAX_VALUE, 1000}, {0, Integer.MIN_VALUE}, {0, Integer.MAX_VALUE}};
        LeaseBoard x = new LeaseBoard(30);
        for (int i = 0; i < taken.length; i++) {
            Check.due("keeper", x.keeper(taken[i][0], taken[i][1]), i);
            Check.due("its clock", x.clock(0, i), taken[i][0]);
            Check.due("worker", x.worker(taken[i][0], taken[i][1]), i);
            Check.due("its clock", x.clock(1, i), taken[i][0]);
        }
        Scene two = new Scene(30, y -> {
            y.keeper(0, 1000);
            y.worker(0, 1000);
        });
        for (int[] n : not) {
            two.refuses("keeper(" + n[0] + ", " + n[1] + ")", -2, y -> y.keeper(n[0], n[1]));
            two.refuses("worker(" + n[0] + ", " + n[1] + ")", -2, y -> y.worker(n[0], n[1]));
        }
    }

    /** What is cut is TIME times RATE by 1000, not the sum with a BEGIN below 0. */
    private static void clockIsCut() {
        Document.terms("it shows BEGIN and, more, TIME times RATE by 1000 (cut).");
        LeaseBoard x = new LeaseBoard(100);
        x.keeper(0, 999);
        x.keeper(-1, 999);
        x.worker(-1000000, 1001);
        x.worker(7, 900);
        x.tick(1);
        clocksAre(x, 0, -1, -999999, 7);
        x.tick(998);
        clocksAre(x, 998, 997, -1000000 + 999, 7 + 899);
        x.tick(1);
        clocksAre(x, 999, 998, -1000000 + 1001, 7 + 900);
    }

    private static void clocksAre(LeaseBoard x, long... due) {
        for (int i = 0; i < 2; i++) {
            Check.due("keeper " + i + " at " + x.tick(0), x.clock(0, i), due[i]);
            Check.due("worker " + i + " at " + x.tick(0), x.clock(1, i), due[2 + i]);
        }
    }

    /** TIME times RATE passes 2147483647, then 4294967295. */
    private static void clockIsNoInt() {
        LeaseBoard x = new LeaseBoard(100);
        x.keeper(0, 1100);
        x.worker(-1000000, 1000);
        for (int i = 0; i < 19; i++) {
            x.tick(100000);
        }
        Check.due("TIME", x.tick(52257), 1952257);
        Check.due("2147482700 by 1000", x.clock(0, 0), 2147482);
        x.tick(1);
        Check.due("2147483800 by 1000", x.clock(0, 0), 2147483);
        Check.due("TIME", x.tick(95226), 2047484);
        Check.due("from its BEGIN on", x.clock(1, 0), 1047484);
        for (int i = 0; i < 18; i++) {
            x.tick(100000);
        }
        Check.due("TIME", x.tick(57032), 3904516);
        Check.due("4294967600 by 1000", x.clock(0, 0), 4294967);
        for (int i = 0; i < 400; i++) {
            x.tick(100000);
        }
        Check.due("at TIME 43904516", x.clock(0, 0), 48294967);
    }

    private static void awakeAtFirst() {
        Document.terms("They are AWAKE at first.");
        LeaseBoard x = new LeaseBoard(0);
        for (int i = 0; i < 5; i++) {
            x.keeper(0, 1000);
            x.worker(0, 1000);
            Check.due("keepers awake", x.count(6), i + 1);
            Check.due("keeper " + i + " was awake", x.wake(0, i, true), 0);
            Check.due("worker " + i + " was awake", x.wake(1, i, true), 0);
        }
    }

    private static void kinds() {
        Document.terms("A THING has a KIND: 0 ONLY, 1 SHARED under ONLY, 2 COUNTED under SHARED (it has a WHOLE 1 .. 100), "
            + "3 RISING under ONLY, 4 WAITING under ONLY;");
        LeaseBoard x = new LeaseBoard(0);
        int[][] taken = {{0, 0}, {1, 0}, {2, 1}, {2, 100}, {3, 0}, {4, 0}};
        for (int i = 0; i < taken.length; i++) {
            Check.due("thing", x.thing(taken[i][0], 5, taken[i][1]), i);
            Check.due("its KIND", x.told(i, 0), taken[i][0]);
            Check.due("its WHOLE", x.told(i, 3), taken[i][1]);
        }
        Scene empty = new Scene(0, y -> { });
        int[][] not = {{-1, 0}, {5, 0}, {2, 0}, {2, 101}, {2, -1}, {0, 1}, {1, 1}, {3, 1}, {4, 1}, {0, -1}, {4, 100},
            {Integer.MIN_VALUE, 0}, {Integer.MAX_VALUE, 0}, {2, Integer.MIN_VALUE}, {2, Integer.MAX_VALUE}};
        for (int[] n : not) {
            empty.refuses("thing(" + n[0] + ", 5, " + n[1] + ")", -2, y -> y.thing(n[0], 5, n[1]));
        }
    }

    private static void lengths() {
        Document.terms("a LENGTH L 1 .. 1000;");
        for (int kind = 0; kind < 5; kind++) {
            int k = kind;
            int whole = kind == 2 ? 1 : 0;
            LeaseBoard x = new LeaseBoard(0);
            Check.due("the shortest", x.thing(k, 1, whole), 0);
            Check.due("the longest", x.thing(k, 1000, whole), 1);
            Check.due("told", x.told(0, 1), 1);
            Check.due("told", x.told(1, 1), 1000);
            Scene empty = new Scene(0, y -> { });
            for (int n : new int[] {0, -1, 1001, Integer.MIN_VALUE, Integer.MAX_VALUE}) {
                empty.refuses("thing of length " + n, -2, y -> y.thing(k, n, whole));
            }
        }
    }

    /** The least whole number that, times 1000 - DRIFT, is not below L times 1000 + DRIFT; and 2. */
    private static void longs() {
        Document.terms("its LONG is L times (1000 + DRIFT) by (1000 - DRIFT), up to a whole number, and 2.");
        int wrong = 0;
        for (int drift = 0; drift <= 100; drift++) {
            for (int first = 1; first <= 1000; first += 20) {
                LeaseBoard x = new LeaseBoard(drift);
                for (int i = 0; i < 20; i++) {
                    int length = first + i;
                    x.thing(i % 2, length, 0);
                    int up = x.told(i, 2) - 2;
                    boolean enough = up * (1000 - drift) >= length * (1000 + drift);
                    boolean least = (up - 1) * (1000 - drift) < length * (1000 + drift);
                    wrong += enough && least ? 0 : 1;
                }
            }
        }
        Check.due("LONGS that are wrong", wrong, 0);
        int[][] edges = {{0, 1, 3}, {0, 1000, 1002}, {100, 9, 13}, {100, 10, 15}, {100, 8, 12}, {100, 1000, 1225},
            {1, 999, 1003}, {1, 1000, 1005}};
        for (int[] e : edges) {
            LeaseBoard x = new LeaseBoard(e[0]);
            x.thing(0, e[1], 0);
            Check.due("LONG of " + e[1] + " with drift " + e[0], x.told(0, 2), e[2]);
        }
    }

    private static void constants() {
        Document.terms("NONE is -1; NO, where a long is answered, -4611686018427387904.");
        Check.due("NONE", LeaseBoard.NONE, -1);
        Check.due("NO", LeaseBoard.NO, -4611686018427387904L);
        Check.due("BAD", LeaseBoard.BAD, -2);
        Check.due("STATE", LeaseBoard.STATE, -3);
        Check.due("FULL", LeaseBoard.FULL, -4);
    }

    /** What is BAD, in states in which STATE or FULL would fit as well. */
    private static void badComesFirst() {
        Document.terms("Refusals, the first that fits: BAD (-2: a number is none such or outside what is told), STATE (-3), "
            + "FULL (-4); they change nothing.");
        Scene all = new Scene(0, x -> {
            for (int i = 0; i < 20; i++) {
                x.keeper(0, 1000);
                x.worker(0, 1000);
                x.thing(0, 1, 0);
            }
        });
        all.refuses("keeper, BAD and FULL", -2, x -> x.keeper(0, 999));
        all.refuses("worker, BAD and FULL", -2, x -> x.worker(1000001, 1000));
        all.refuses("thing, BAD and FULL", -2, x -> x.thing(0, 1, 1));
        Scene asleep = Boards.letters(400).then(x -> {
            x.wake(1, 0, false);
            x.wake(1, 1, false);
            x.wake(0, 0, false);
        });
        asleep.refuses("ask, BAD, STATE and FULL", -2, x -> x.ask(0, 0, 2, 1, 0));
        asleep.refuses("renew, BAD, STATE and FULL", -2, x -> x.renew(0, 2, 0));
        asleep.refuses("end, BAD, STATE and FULL", -2, x -> x.end(0, -1, 0));
        asleep.refuses("rise, BAD, STATE and FULL", -2, x -> x.rise(0, 0, 1));
        asleep.refuses("deliver, BAD and FULL", -2, x -> x.deliver(400));
        asleep.refuses("twice, BAD and FULL", -2, x -> x.twice(400));
        asleep.refuses("look, BAD, STATE and FULL", -2, x -> x.look(3));
        asleep.refuses("lead, BAD and STATE", -2, x -> x.lead(2));
        asleep.refuses("write, BAD and STATE", -2, x -> x.write(0, 0, 1, 5));
    }

    private static void stateComesNext() {
        Scene asleep = Boards.letters(400).then(x -> {
            x.wake(1, 0, false);
            x.wake(0, 0, false);
        });
        asleep.refuses("ask, STATE and FULL", -3, x -> x.ask(0, 0, 2, 0, 0));
        asleep.refuses("renew, STATE and FULL", -3, x -> x.renew(0, 0, 0));
        asleep.refuses("end, STATE and FULL", -3, x -> x.end(0, 0, 0));
        asleep.refuses("rise, STATE and FULL", -3, x -> x.rise(0, 0, 0));
        asleep.refuses("renew of what it does not hold, and FULL", -3, x -> x.renew(1, 0, 0));
        asleep.refuses("end of what it does not hold, and FULL", -3, x -> x.end(1, 0, 0));
        asleep.refuses("rise of what it does not hold, and FULL", -3, x -> x.rise(1, 0, 0));
        asleep.refuses("deliver, STATE and FULL", -3, x -> x.deliver(0));
        asleep.refuses("look, STATE and FULL", -3, x -> x.look(0));
        Scene awake = Boards.letters(400);
        awake.refuses("ask, FULL", -4, x -> x.ask(0, 0, 2, 0, 0));
        awake.refuses("renew, FULL", -4, x -> x.renew(0, 0, 0));
        awake.refuses("end, FULL", -4, x -> x.end(0, 0, 0));
        awake.refuses("rise, FULL", -4, x -> x.rise(0, 0, 0));
        awake.refuses("deliver, FULL", -4, x -> x.deliver(399));
        awake.refuses("twice, FULL", -4, x -> x.twice(0));
        awake.refuses("look, FULL", -4, x -> x.look(0));
    }
}
