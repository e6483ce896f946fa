/** Boards to begin with, and errands of several calls. */
final class Boards {
    private Boards() {
    }

    /** No drift, keepers that all show TIME (the first leads), workers that show TIME. */
    static LeaseBoard plain(int keepers, int workers) {
        LeaseBoard x = new LeaseBoard(0);
        for (int i = 0; i < keepers; i++) {
            Check.due("keeper", x.keeper(0, 1000), i);
        }
        for (int i = 0; i < workers; i++) {
            Check.due("worker", x.worker(0, 1000), i);
        }
        Check.due("lead", x.lead(0), 1);
        return x;
    }

    /** The worker asks keeper 0 and the letter is delivered: the letter that came of it, or NONE. */
    static int asked(LeaseBoard x, int worker, int thing, int mode, int parts) {
        return answered(x, x.ask(worker, 0, thing, mode, parts));
    }

    /** Delivers a letter: the last letter that was sent by that, or NONE. */
    static int answered(LeaseBoard x, int letter) {
        int before = x.count(4);
        Check.due("deliver(" + letter + ")", x.deliver(letter), 1);
        return x.count(4) == before ? LeaseBoard.NONE : x.count(4) - 1;
    }

    /** The worker asks keeper 0, is granted it and hears of it. */
    static void taken(LeaseBoard x, int worker, int thing, int mode, int parts) {
        int letter = asked(x, worker, thing, mode, parts);
        Check.due("a GRANT", x.letter(letter, 0), 4);
        Check.due("deliver the GRANT", x.deliver(letter), 1);
        Check.due("it holds", x.holds(worker, thing, 1), 1);
    }

    /** Keeper 0 hears that the worker ends it. */
    static void ended(LeaseBoard x, int worker, int thing) {
        Check.due("deliver the END", x.deliver(x.end(worker, 0, thing)), 1);
    }

    /** Sends letters of worker 0 of a thing till there are so many. */
    static void lettersUpTo(LeaseBoard x, int worker, int thing, int mode, int parts, int letters) {
        for (int i = x.count(4); i < letters; i++) {
            Check.due("ask", x.ask(worker, 0, thing, mode, parts), i);
        }
    }
}
