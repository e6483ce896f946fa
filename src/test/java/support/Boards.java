/** Boards to begin with, and errands of several calls. */
final class Boards {
    private Boards() {
    }

    /** No drift, keepers that all show TIME (the first leads), workers that show TIME. */
    static LeaseBoard plain(int keepers, int workers) {
        LeaseBoard x = new LeaseBoard(0);
        for (int i = 0; i < keepers; i++) {
            Check.due("keeper", x.keeper(0, 1000), i);
        }
        for (int i = 0; i < workers; i++) {
            Check.due("worker", x.worker(0, 1000), i);
        }
        Check.due("lead", x.lead(0), 1);
        return x;
    }

    /** The worker asks keeper 0 and the letter is delivered: the letter that came of it, or NONE. */
    static int asked(LeaseBoard x, int worker, int thing, int mode, int parts) {
        return answered(x, x.ask(worker, 0, thing, mode, parts));
    }

    /** Delivers a letter: the last letter that was sent by that, or NONE. */
    static int answered(LeaseBoard x, int letter) {
        int before = x.count(4);
        Check.due("deliver(" + letter + ")", x.deliver(letter), 1);
        return x.count(4) == before ? LeaseBoard.NONE : x.count(4) - 1;
    }

    /** The worker asks keeper 0, is granted it and hears of it. */
    static void taken(LeaseBoard x, int worker, int thing, int mode, int parts) {
        int letter = asked(x, worker, thing, mode, parts);
        Check.due("a GRANT", x.letter(letter, 0), 4);
        Check.due("deliver the GRANT", x.deliver(letter), 1);
        Check.due("it holds", x.holds(worker, thing, 1), 1);
    }

    /** KIND, WORKER, KEEPER, THING, MODE, PARTS and how it is, or the first of these. */
    static void letterIs(LeaseBoard x, int l, int... due) {
        for (int what = 0; what < due.length; what++) {
            Check.due("letter(" + l + ", " + what + ")", x.letter(l, what), due[what]);
        }
    }

    /** NUMBER, ASKED and MARK. */
    static void wroteIs(LeaseBoard x, int l, long... due) {
        for (int what = 0; what < due.length; what++) {
            Check.due("wrote(" + l + ", " + what + ")", x.wrote(l, what), due[what]);
        }
    }

    /** Keeper 0 hears that the worker ends it. */
    static void ended(LeaseBoard x, int worker, int thing) {
        Check.due("deliver the END", x.deliver(x.end(worker, 0, thing)), 1);
    }

    /** Sends letters of worker 0 of a thing till there are so many. */
    static void lettersUpTo(LeaseBoard x, int worker, int thing, int mode, int parts, int letters) {
        for (int i = x.count(4); i < letters; i++) {
            Check.due("ask", x.ask(worker, 0, thing, mode, parts), i);
        }
    }

    /**
     * A state with something of every sort, of drift 10, 3 keepers (0 leads), 4 workers, 2 stores, and of thing
     * 0 ONLY: held by worker 0, asked for by worker 3; 1 SHARED: read by 0 and 1; 2 COUNTED, whole 5: 2 parts of 0,
     * 3 of 1; 3 RISING: read by 0 and 1, riser 0; 4 WAITING: worker 1 called, worker 2 behind it.
     */
    static Scene busy() {
        return new Scene(10, Boards::makeBusy);
    }

    private static void makeBusy(LeaseBoard x) {
        x.keeper(0, 1000);
        x.keeper(500, 1010);
        x.keeper(-500, 990);
        for (int w = 0; w < 4; w++) {
            x.worker(10 * w, 1000);
        }
        int[][] things = {{0, 10, 0}, {1, 20, 0}, {2, 30, 5}, {3, 40, 0}, {4, 6, 0}};
        for (int[] t : things) {
            x.thing(t[0], t[1], t[2]);
        }
        x.store();
        x.store();
        x.lead(0);
        x.tick(3);
        taken(x, 0, 0, 0, 0);
        for (int w = 0; w < 2; w++) {
            taken(x, w, 1, 1, 0);
            taken(x, w, 2, 0, 2 + w);
            taken(x, w, 3, 1, 0);
        }
        answered(x, x.rise(0, 0, 3));
        taken(x, 0, 4, 0, 0);
        asked(x, 1, 4, 0, 0);
        asked(x, 2, 4, 0, 0);
        ended(x, 0, 4);
        x.lose(x.twice(0));
        x.ask(3, 0, 0, 0, 0);
        x.tick(1);
        x.write(0, 0, 1, 77);
        x.put(0, 1, 2);
        x.put(1, 2, 0);
        x.put(2, 3, 1);
        x.put(3, 4, 1);
        x.forge(0, 7, 0);
    }

    /**
     * So many letters (7 or more) of 400, of drift 0, 2 keepers (0 leads), 2 workers, a store, and of thing
     * 0 RISING: read by worker 0; 1 WAITING: held by worker 0, worker 1 in the queue; 2 ONLY: worker 1 asks for it
     * with all letters from 5 on, the rest of which is under way.
     */
    static Scene letters(int letters) {
        return new Scene(0, x -> makeLetters(x, letters));
    }

    private static void makeLetters(LeaseBoard x, int letters) {
        x.keeper(0, 1000);
        x.keeper(0, 1000);
        x.worker(0, 1000);
        x.worker(0, 1000);
        x.thing(3, 10, 0);
        x.thing(4, 6, 0);
        x.thing(0, 10, 0);
        x.store();
        x.lead(0);
        x.deliver(x.ask(0, 0, 0, 1, 0));
        x.deliver(1);
        x.deliver(x.ask(0, 0, 1, 0, 0));
        x.deliver(3);
        x.deliver(x.ask(1, 0, 1, 0, 0));
        for (int i = 5; i < letters; i++) {
            x.ask(1, 0, 2, 0, 0);
        }
    }
}
