/** The bounds of promises 11 to 14 and of what a worker's letter has, each by its sentence. */
public final class BoundsActsTest {
    private static final int LEAST = Integer.MIN_VALUE, MOST = Integer.MAX_VALUE;

    public static void main(String[] args) {
        actsInTurn();
        askWaits();
        askIsBad();
        askModes();
        askParts();
        renews();
        renewIsRefused();
        ends();
        endIsRefused();
        rises();
        riseIsRefused();
        marksFromOne();
        askedIsItsClock();
        toWhomItGoes();
        Check.end();
    }

    /** The last letter there is room for, and the first there is none for; then asleep. */
    private static void actsInTurn() {
        Document.terms("each sends a LETTER to a KEEPER: its number; BAD; STATE: the WORKER is not AWAKE; then as told; FULL.");
        Scene room = Boards.letters(399);
        room.answers("ask, the last letter", 399, x -> x.ask(0, 0, 2, 0, 0));
        room.answers("renew, the last letter", 399, x -> x.renew(0, 0, 0));
        room.answers("end, the last letter", 399, x -> x.end(0, 0, 0));
        room.answers("rise, the last letter", 399, x -> x.rise(0, 0, 0));
        Scene full = Boards.letters(400);
        full.refuses("ask, FULL", -4, x -> x.ask(0, 0, 2, 0, 0));
        full.refuses("ask of one that waits, FULL", -4, x -> x.ask(1, 0, 2, 0, 0));
        full.refuses("renew, FULL", -4, x -> x.renew(0, 0, 0));
        full.refuses("end, FULL", -4, x -> x.end(0, 0, 0));
        full.refuses("rise, FULL", -4, x -> x.rise(0, 0, 0));
        Scene asleep = Boards.busy().then(x -> x.wake(1, 0, false));
        asleep.refuses("ask asleep", -3, x -> x.ask(0, 0, 0, 0, 0));
        asleep.refuses("renew asleep", -3, x -> x.renew(0, 0, 0));
        asleep.refuses("end asleep", -3, x -> x.end(0, 0, 0));
        asleep.refuses("rise asleep", -3, x -> x.rise(0, 0, 3));
        asleep.takes("another is awake", x -> x.renew(1, 0, 1));
    }

    private static void askWaits() {
        Document.says(11, "ASK; the WORKER WAITS for its MARK from now on (instead of another one of that THING).");
        LeaseBoard x = Boards.plain(1, 2);
        x.thing(1, 10, 0);
        x.thing(1, 10, 0);
        Check.due("it does not wait at first", x.holds(0, 0, 4), 0);
        int first = x.ask(0, 0, 0, 1, 0);
        int other = x.ask(0, 0, 1, 1, 0);
        Check.due("it waits", x.holds(0, 0, 4), 1);
        Check.due("another does not", x.holds(1, 0, 4), 0);
        int grant = Boards.answered(x, first);
        int second = x.ask(0, 0, 0, 1, 0);
        x.deliver(grant);
        Check.due("a MARK for which it waits no more", x.holds(0, 0, 1), 0);
        Check.due("it waits on", x.holds(0, 0, 4), 1);
        x.deliver(Boards.answered(x, other));
        Check.due("of another THING it waited still", x.holds(0, 1, 1), 1);
        x.deliver(Boards.answered(x, second));
        Check.due("the MARK for which it waits", x.holds(0, 0, 4), 0);
    }

    private static void askIsBad() {
        Document.says(11, "BAD, too:");
        Scene busy = Boards.busy();
        for (int n : new int[] {-1, LEAST, MOST}) {
            busy.refuses("ask of worker " + n, -2, x -> x.ask(n, 0, 0, 0, 0));
            busy.refuses("ask to keeper " + n, -2, x -> x.ask(0, n, 0, 0, 0));
            busy.refuses("ask for thing " + n, -2, x -> x.ask(0, 0, n, 0, 0));
        }
        busy.refuses("worker 4", -2, x -> x.ask(4, 0, 0, 0, 0));
        busy.refuses("keeper 3", -2, x -> x.ask(0, 3, 0, 0, 0));
        busy.refuses("thing 5", -2, x -> x.ask(0, 0, 5, 0, 0));
        busy.takes("the last of each", x -> x.ask(3, 2, 4, 0, 0));
    }

    private static void askModes() {
        Document.says(11, "mode 0, 1 (READ of SHARED, RISING ones alone);");
        Scene busy = Boards.busy();
        int[] parts = {0, 0, 1, 0, 0};
        boolean[] read = {false, true, false, true, false};
        for (int kind = 0; kind < 5; kind++) {
            int k = kind;
            busy.takes("WRITE of kind " + k, x -> x.ask(2, 0, k, 0, parts[k]));
            for (int n : new int[] {-1, 2, LEAST, MOST}) {
                busy.refuses("mode " + n + " of kind " + k, -2, x -> x.ask(2, 0, k, n, parts[k]));
            }
            if (read[k]) {
                busy.takes("READ of kind " + k, x -> x.ask(2, 0, k, 1, parts[k]));
            } else {
                busy.refuses("READ of kind " + k, -2, x -> x.ask(2, 0, k, 1, parts[k]));
            }
        }
        busy.refuses("READ of COUNTED, without parts", -2, x -> x.ask(2, 0, 2, 1, 0));
    }

    private static void askParts() {
        Document.says(11, "parts 1 .. the WHOLE (of others than COUNTED 0).");
        Scene busy = Boards.busy().then(x -> {
            x.thing(2, 10, 1);
            x.thing(2, 10, 100);
        });
        int[][] wholes = {{2, 5}, {5, 1}, {6, 100}};
        for (int[] w : wholes) {
            busy.takes("1 part of " + w[1], x -> x.ask(2, 0, w[0], 0, 1));
            busy.takes("the WHOLE " + w[1], x -> x.ask(2, 0, w[0], 0, w[1]));
            for (int n : new int[] {0, -1, w[1] + 1, LEAST, MOST}) {
                busy.refuses(n + " parts of " + w[1], -2, x -> x.ask(2, 0, w[0], 0, n));
            }
        }
        for (int thing : new int[] {0, 1, 3, 4}) {
            for (int n : new int[] {1, -1, LEAST, MOST}) {
                busy.refuses(n + " parts of kind " + thing, -2, x -> x.ask(2, 0, thing, 0, n));
            }
        }
        busy.refuses("a part, READ", -2, x -> x.ask(2, 0, 1, 1, 1));
    }

    private static void renews() {
        Document.says(12, "RENEW, with MODE, PARTS, NUMBER that it HOLDS: it WAITS for its MARK, too.");
        LeaseBoard x = Boards.busy().board();
        int counted = x.renew(1, 2, 2);
        Boards.letterIs(x, counted, 1, 1, 2, 2, 0, 3, 0);
        Boards.wroteIs(x, counted, 2, 14, 5);
        Check.due("it waits", x.holds(1, 2, 4), 1);
        Check.due("it holds on", x.holds(1, 2, 1), 1);
        int shared = x.renew(1, 0, 1);
        Boards.letterIs(x, shared, 1, 1, 0, 1, 1, 0, 0);
        Boards.wroteIs(x, shared, 2, 14, 6);
        int again = x.renew(1, 0, 1);
        x.deliver(shared);
        x.deliver(x.count(4) - 1);
        Check.due("it waits for the later one", x.holds(1, 1, 4), 1);
        x.deliver(again);
        x.deliver(x.count(4) - 1);
        Check.due("it waits no more", x.holds(1, 1, 4), 0);
        x.tick(1000);
        Check.due("late, it holds it all the same", x.holds(1, 1, 0) * 10 + x.holds(1, 1, 1), 1);
        Check.due("so it may renew", x.renew(1, 0, 1), x.count(4) - 1);
    }

    private static void renewIsRefused() {
        Document.says(12, "STATE: it does not HOLD it.");
        Scene busy = Boards.busy();
        busy.refuses("what another holds", -3, x -> x.renew(2, 0, 0));
        busy.refuses("for which it waits", -3, x -> x.renew(3, 0, 0));
        busy.refuses("what it has ended", -3, x -> x.renew(0, 0, 4));
        busy.then(x -> x.fall(1)).refuses("fallen", -3, x -> x.renew(1, 0, 1));
        busy.then(x -> {
            x.fall(1);
            x.wake(1, 1, true);
        }).refuses("fallen and awake again", -3, x -> x.renew(1, 0, 1));
        badNumbers(busy, "renew", 0, (x, n) -> x.renew(n[0], n[1], n[2]));
    }

    private interface Act {
        int on(LeaseBoard x, int[] numbers);
    }

    /** Worker, keeper and thing that are none such, each beside such as worker 0 may name. */
    private static void badNumbers(Scene s, String name, int thing, Act act) {
        for (int n : new int[] {-1, LEAST, MOST}) {
            s.refuses(name + " of worker " + n, -2, x -> act.on(x, new int[] {n, 0, thing}));
            s.refuses(name + " to keeper " + n, -2, x -> act.on(x, new int[] {0, n, thing}));
            s.refuses(name + " of thing " + n, -2, x -> act.on(x, new int[] {0, 0, n}));
        }
        s.refuses(name + " of worker 4", -2, x -> act.on(x, new int[] {4, 0, thing}));
        s.refuses(name + " to keeper 3", -2, x -> act.on(x, new int[] {0, 3, thing}));
        s.refuses(name + " of thing 5", -2, x -> act.on(x, new int[] {0, 0, 5}));
        s.takes(name + " to the last keeper", x -> act.on(x, new int[] {0, 2, thing}));
    }

    private static void ends() {
        Document.says(13, "END, with MODE, PARTS, NUMBER that it HOLDS: it HOLDS it no more, and WAITS for nothing of it.");
        LeaseBoard x = Boards.busy().board();
        x.renew(1, 0, 2);
        x.renew(1, 0, 1);
        int counted = x.end(1, 2, 2);
        Boards.letterIs(x, counted, 2, 1, 2, 2, 0, 3, 0);
        Boards.wroteIs(x, counted, 2, 0, 0);
        Check.due("it holds it no more", x.holds(1, 2, 1), 0);
        Check.due("it waits for nothing of it", x.holds(1, 2, 4), 0);
        Check.due("another THING it holds", x.holds(1, 1, 1), 1);
        Check.due("and waits for", x.holds(1, 1, 4), 1);
        Check.due("another holds it", x.holds(0, 2, 1), 1);
        Check.due("THE BOARD knows nothing yet", x.told(2, 4), 2);
        x.tick(1000);
        int late = x.end(1, 0, 1);
        Boards.letterIs(x, late, 2, 1, 0, 1, 1, 0, 0);
        Boards.wroteIs(x, late, 2, 0, 0);
    }

    private static void endIsRefused() {
        Document.says(13, "STATE: it does not HOLD it.");
        Scene busy = Boards.busy();
        busy.refuses("what another holds", -3, x -> x.end(2, 0, 0));
        busy.refuses("for which it waits", -3, x -> x.end(3, 0, 0));
        busy.refuses("what it has ended", -3, x -> x.end(0, 0, 4));
        busy.then(x -> x.fall(1)).refuses("fallen", -3, x -> x.end(1, 0, 1));
        badNumbers(busy, "end", 0, (x, n) -> x.end(n[0], n[1], n[2]));
    }

    private static void rises() {
        Document.says(14, "RISE, with the NUMBER that it HOLDS, MODE WRITE, PARTS 0: it WAITS for its MARK, too.");
        LeaseBoard x = Boards.busy().board();
        int rise = x.rise(1, 2, 3);
        Boards.letterIs(x, rise, 3, 1, 2, 3, 0, 0, 0);
        Boards.wroteIs(x, rise, 2, 14, 5);
        Check.due("it waits", x.holds(1, 3, 4), 1);
        Check.due("it holds READ", x.holds(1, 3, 2), 1);
        Check.due("with its NUMBER", x.held(1, 3, 0), 2);
        LeaseBoard y = Boards.plain(1, 1);
        y.thing(3, 10, 0);
        Boards.taken(y, 0, 0, 0, 0);
        Boards.letterIs(y, y.rise(0, 0, 0), 3, 0, 0, 0, 0, 0, 0);
        y.tick(1000);
        Check.due("one that holds WRITE, and late", y.rise(0, 0, 0), 3);
    }

    private static void riseIsRefused() {
        Document.says(14, "BAD: the THING is not RISING. STATE: it does not HOLD it.");
        Scene busy = Boards.busy();
        for (int thing : new int[] {0, 1, 2, 4}) {
            busy.refuses("rise of kind " + thing, -2, x -> x.rise(0, 0, thing));
            busy.refuses("rise of kind " + thing + " by one that does not hold it", -2, x -> x.rise(3, 0, thing));
        }
        busy.refuses("it does not hold it", -3, x -> x.rise(2, 0, 3));
        busy.then(x -> x.ask(2, 0, 3, 1, 0)).refuses("for which it waits", -3, x -> x.rise(2, 0, 3));
        busy.then(x -> x.end(0, 0, 3)).refuses("what it has ended", -3, x -> x.rise(0, 0, 3));
        badNumbers(busy, "rise", 3, (x, n) -> x.rise(n[0], n[1], n[2]));
    }

    /** An END has none and a refused act sends none; a doubled letter has that of the one it is like. */
    private static void marksFromOne() {
        Document.terms("the MARK tells how many of these its WORKER has sent, of all THINGS, from 1 on;");
        LeaseBoard x = Boards.plain(1, 2);
        x.thing(3, 10, 0);
        x.thing(0, 10, 0);
        Check.due("refused", x.ask(0, 0, 1, 1, 0), -2);
        Boards.taken(x, 0, 0, 1, 0);
        Check.due("the first ASK", x.wrote(0, 2), 1);
        Check.due("its GRANT", x.wrote(1, 2), 1);
        Check.due("refused", x.rise(0, 0, 1), -2);
        Check.due("refused", x.renew(0, 0, 1), -3);
        Check.due("RENEW", x.wrote(x.renew(0, 0, 0), 2), 2);
        Check.due("RISE", x.wrote(x.rise(0, 0, 0), 2), 3);
        Check.due("one like it", x.wrote(x.twice(x.count(4) - 1), 2), 3);
        Check.due("of another THING", x.wrote(x.ask(0, 0, 1, 0, 0), 2), 4);
        Check.due("of another WORKER", x.wrote(x.ask(1, 0, 1, 0, 0), 2), 1);
        Check.due("END", x.wrote(x.end(0, 0, 0), 2), 0);
        x.wake(1, 0, false);
        Check.due("refused", x.ask(0, 0, 1, 0, 0), -3);
        x.wake(1, 0, true);
        Check.due("the next", x.wrote(x.ask(0, 0, 0, 1, 0), 2), 5);
        LeaseBoard full = Boards.letters(399).board();
        long last = full.wrote(398, 2);
        Check.due("the last letter's", full.wrote(full.ask(1, 0, 2, 0, 0), 2), last + 1);
    }

    private static void askedIsItsClock() {
        Document.terms("ASKED what its CLOCK showed.");
        LeaseBoard x = new LeaseBoard(100);
        x.keeper(5000, 1000);
        x.worker(-1000000, 900);
        x.worker(1000000, 1100);
        x.thing(1, 1000, 0);
        x.lead(0);
        x.tick(9);
        int slow = x.ask(0, 0, 0, 1, 0);
        int fast = x.ask(1, 0, 0, 1, 0);
        x.tick(500);
        Check.due("the slow one's", x.wrote(slow, 1), -1000000 + 8);
        Check.due("the fast one's", x.wrote(fast, 1), 1000000 + 9);
        int answer = Boards.answered(x, slow);
        Check.due("it stays so in the answer", x.wrote(answer, 1), -1000000 + 8);
        x.deliver(answer);
        x.tick(1);
        Check.due("RENEW", x.wrote(x.renew(0, 0, 0), 1), -1000000 + 459);
    }

    private static void toWhomItGoes() {
        Document.terms("To KEEPERS: 0 ASK, 1 RENEW, 2 END, 3 RISE; to WORKERS: 4 GRANT, 5 NO, 6 TURN, 7 LATE.");
        LeaseBoard x = Boards.plain(1, 2);
        x.thing(3, 10, 0);
        x.thing(4, 10, 0);
        int ask = x.ask(0, 0, 0, 1, 0);
        int grant = Boards.answered(x, ask);
        x.deliver(grant);
        int no = Boards.answered(x, x.ask(0, 0, 0, 1, 0));
        int renew = x.renew(0, 0, 0);
        int rise = x.rise(0, 0, 0);
        int end = x.end(0, 0, 0);
        x.deliver(end);
        int late = Boards.answered(x, renew);
        Boards.taken(x, 0, 1, 0, 0);
        Boards.asked(x, 1, 1, 0, 0);
        int turn = Boards.answered(x, x.end(0, 0, 1));
        int[] letters = {ask, renew, end, rise, grant, no, turn, late};
        for (int kind = 0; kind < letters.length; kind++) {
            Check.due("KIND", x.letter(letters[kind], 0), kind);
            int like = x.twice(letters[kind]);
            x.wake(0, 0, kind < 4);
            x.lead(0);
            x.wake(1, 0, kind >= 4);
            x.wake(1, 1, kind >= 4);
            Check.due("it reaches one of its sort, KIND " + kind, x.deliver(like), 1);
            x.wake(0, 0, true);
        }
    }
}
