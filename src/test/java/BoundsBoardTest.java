/** The bounds of THE BOARD (part 1 of the Terms) and of promises 20 to 23, each by its sentence. */
public final class BoundsBoardTest {
    private static final int LEAST = Integer.MIN_VALUE, MOST = Integer.MAX_VALUE;

    public static void main(String[] args) {
        newThings();
        fullQueue();
        grantsGo();
        grantsGoBelowZero();
        riserGoes();
        calledGoes();
        firstIsCalled();
        onlyFits();
        sharedFits();
        countedFits();
        risingFits();
        waitingFits();
        toGrant();
        looks();
        lookIsRefused();
        lookIsFull();
        grantsInOrder();
        grantIsRefused();
        endsAreTold();
        told();
        toldOfQueue();
        toldIsBad();
        Check.end();
    }

    /** No drift, one keeper that leads, so many workers whose clocks all show TIME, and thing 0. */
    private static Scene with(int workers, int kind, int length, int whole) {
        return new Scene(0, x -> {
            x.keeper(0, 1000);
            for (int w = 0; w < workers; w++) {
                x.worker(0, 1000);
            }
            x.thing(kind, length, whole);
            x.lead(0);
        });
    }

    /** Asks for thing 0 and delivers that; the KIND of the last letter there is then. */
    private static long asks(LeaseBoard x, int worker, int mode, int parts) {
        x.deliver(x.ask(worker, 0, 0, mode, parts));
        return x.letter(x.count(4) - 1, 0);
    }

    /** As asks, and the worker hears of it. */
    private static void takes(LeaseBoard x, int worker, int mode, int parts) {
        Check.due("a GRANT", asks(x, worker, mode, parts), 4);
        x.deliver(x.count(4) - 1);
    }

    private static void newThings() {
        Document.terms("A THING has GRANTS, each of another WORKER: its MODE (0 WRITE, 1 READ), PARTS (of COUNTED ones; else 0), "
            + "its NUMBER, its END; a last NUMBER (0 at first); a RISER, or none (of RISING ones); a QUEUE of WORKERS "
            + "(8 at most; of WAITING ones), whose first one may be CALLED, with an END.");
        for (int kind = 0; kind < 5; kind++) {
            int whole = kind == 2 ? 5 : 0;
            int parts = kind == 2 ? 3 : 0;
            Scene s = with(2, kind, 10, whole);
            s.answers("no GRANTS", 0, x -> x.told(0, 4));
            s.answers("no RISER", -1, x -> x.told(0, 5));
            s.answers("nobody in the QUEUE", 0, x -> x.told(0, 6));
            s.answers("none CALLED", 0, x -> x.told(0, 7));
            Scene granted = s.then(x -> asks(x, 1, 0, parts));
            granted.answers("its WORKER", 1, x -> x.grant(0, 0, 0));
            granted.answers("its MODE", 0, x -> x.grant(0, 0, 1));
            granted.answers("its PARTS", parts, x -> x.grant(0, 0, 2));
            granted.answers("its NUMBER is the first", 1, x -> x.ends(0, 0, 0));
            granted.answers("its END", 12, x -> x.ends(0, 0, 1));
            granted.answers("no second one of the same WORKER", 5, x -> asks(x, 1, 0, parts == 0 ? 0 : 1));
        }
        Scene reader = with(2, 1, 10, 0).then(x -> asks(x, 1, 1, 0));
        reader.answers("a reader's MODE", 1, x -> x.grant(0, 0, 1));
    }

    private static Scene queue(int many) {
        return with(12, 4, 6, 0).then(x -> {
            takes(x, 0, 0, 0);
            for (int w = 1; w <= many; w++) {
                x.deliver(x.ask(w, 0, 0, 0, 0));
            }
        });
    }

    private static void fullQueue() {
        Document.terms("Else, of a WAITING one: nothing, if it is in the QUEUE; with 8 in that a NO; else it comes to its end.");
        for (int many = 0; many < 8; many++) {
            int n = many;
            Scene s = queue(n).then(x -> x.deliver(x.ask(n + 1, 0, 0, 0, 0)));
            s.answers("it comes behind " + n, n + 1, x -> x.told(0, 6));
            s.answers("to its end", n + 1, x -> x.told(0, 9 + n));
            s.answers("no NO", 0, x -> x.count(10));
        }
        Scene full = queue(8);
        Scene ninth = full.then(x -> x.deliver(x.ask(9, 0, 0, 0, 0)));
        ninth.answers("a NO", 1, x -> x.count(10));
        ninth.answers("to it", 9, x -> x.letter(x.count(4) - 1, 1));
        ninth.answers("8 in it", 8, x -> x.told(0, 6));
        ninth.answers("its last is as before", 8, x -> x.told(0, 16));
        for (int w = 1; w <= 8; w++) {
            int worker = w;
            Scene again = full.then(x -> x.deliver(x.ask(worker, 0, 0, 0, 0)));
            again.answers("in it already: no NO", 0, x -> x.count(10));
            again.answers("no letter", full.board().count(4) + 1, x -> x.count(4));
            again.answers("8 in it", 8, x -> x.told(0, 6));
            again.answers("its place", worker, x -> x.told(0, 8 + worker));
        }
        Scene free = full.then(x -> x.deliver(x.end(0, 0, 0)));
        free.answers("no GRANTS, but 8 in it: a NO", 5, x -> asks(x, 9, 0, 0));
        free.then(x -> asks(x, 1, 0, 0)).then(x -> x.deliver(x.ask(9, 0, 0, 0, 0)))
            .answers("one went: it comes to the end", 9, x -> x.told(0, 16));
    }

    /** Looked at: how many GRANTS there are when so many ticks have gone by. */
    private static void lookAfter(String what, Scene s, int ticks, int grants) {
        s.then(x -> x.tick(ticks)).answers(what, grants, x -> x.look(0));
    }

    private static void grantsGo() {
        Document.terms("THE BOARD is LOOKED AT for a THING, by the LEADER's CLOCK c: GRANTS with an END at or below c go;");
        Scene one = with(3, 1, 10, 0).then(x -> asks(x, 0, 1, 0));
        lookAfter("c one below END", one, 11, 1);
        lookAfter("c at END", one, 12, 0);
        lookAfter("c above END", one, 13, 0);
        one.then(x -> x.tick(500)).answers("none looked", 1, x -> x.told(0, 4));
        Scene three = one.then(x -> {
            x.tick(1);
            asks(x, 1, 1, 0);
            x.tick(1);
            asks(x, 2, 1, 0);
        });
        lookAfter("none of three", three, 9, 3);
        lookAfter("the first", three, 10, 2);
        lookAfter("the second", three, 11, 1);
        lookAfter("the third", three, 12, 0);
        three.then(x -> x.tick(10)).answers("the others stay in their order", 1, x -> {
            x.look(0);
            return x.grant(0, 0, 0);
        });
        Scene renewed = three.then(x -> {
            x.deliver(1);
            x.deliver(x.renew(0, 0, 0));
            x.tick(11);
            x.look(0);
        });
        renewed.answers("one in the middle goes, too", 2, x -> x.told(0, 4));
        renewed.answers("the first stays", 0, x -> x.grant(0, 0, 0));
        renewed.answers("the third stays", 2, x -> x.grant(0, 1, 0));
    }

    /** By the LEADER's CLOCK, which is slow and shows numbers below 0; not by TIME or by the worker's. */
    private static void grantsGoBelowZero() {
        Scene s = new Scene(100, x -> {
            x.keeper(-1000000, 900);
            x.worker(0, 1100);
            x.thing(0, 9, 0);
            x.lead(0);
            x.deliver(x.ask(0, 0, 0, 0, 0));
        });
        s.answers("LONG", 13, x -> x.told(0, 2));
        s.answers("END", -1000000 + 13, x -> x.ends(0, 0, 1));
        lookAfter("it shows 12 more", s, 14, 1);
        lookAfter("it shows 13 more", s, 15, 0);
    }

    private static void riserGoes() {
        Document.terms("a RISER that has no GRANT any more is none;");
        Scene rising = with(3, 3, 10, 0).then(x -> {
            takes(x, 0, 1, 0);
            x.tick(2);
            takes(x, 1, 1, 0);
            x.deliver(x.rise(0, 0, 0));
        });
        rising.answers("RISER", 0, x -> x.told(0, 5));
        rising.then(x -> x.look(0)).answers("it has a GRANT", 0, x -> x.told(0, 5));
        rising.then(x -> x.tick(9)).then(x -> x.look(0)).answers("c one below its END", 0, x -> x.told(0, 5));
        rising.then(x -> x.tick(10)).answers("none looked", 0, x -> x.told(0, 5));
        Scene late = rising.then(x -> x.tick(10)).then(x -> x.look(0));
        late.answers("c at its END", -1, x -> x.told(0, 5));
        late.answers("another's GRANT is there", 1, x -> x.told(0, 4));
        late.answers("a reader FITS again", 4, x -> asks(x, 2, 1, 0));
        Scene ended = rising.then(x -> x.deliver(x.end(0, 0, 0)));
        ended.answers("it ended", -1, x -> x.told(0, 5));
        Scene other = rising.then(x -> x.deliver(x.end(1, 0, 0)));
        other.answers("another ended", 0, x -> x.told(0, 5));
    }

    /** Worker 1 is CALLED at TIME 0, 2 and 3 are behind it; LONG is 8. */
    private static Scene called() {
        return queue(3).then(x -> x.deliver(x.end(0, 0, 0)));
    }

    private static long firstAfterLook(LeaseBoard x) {
        x.look(0);
        return x.told(0, 9);
    }

    private static void calledGoes() {
        Document.terms("if the first of the QUEUE is CALLED with an END at or below c, it goes from it.");
        Scene s = called();
        s.then(x -> x.tick(7)).answers("c one below its END", 1, BoundsBoardTest::firstAfterLook);
        s.then(x -> x.tick(8)).answers("c at its END", 2, BoundsBoardTest::firstAfterLook);
        s.then(x -> x.tick(9)).answers("c above its END", 2, BoundsBoardTest::firstAfterLook);
        Scene far = s.then(x -> x.tick(5000)).then(x -> x.look(0));
        far.answers("the first alone goes, however late", 2, x -> x.told(0, 6));
        far.answers("the next is CALLED", 1, x -> x.told(0, 7));
        far.then(x -> x.tick(7)).answers("it has LONG from then on", 2, BoundsBoardTest::firstAfterLook);
        far.then(x -> x.tick(8)).answers("and then goes", 3, BoundsBoardTest::firstAfterLook);
        Scene last = far.then(x -> x.tick(8)).then(x -> x.look(0)).then(x -> x.tick(8)).then(x -> x.look(0));
        last.answers("the last goes", 0, x -> x.told(0, 6));
        last.answers("none is CALLED", 0, x -> x.told(0, 7));
        last.answers("none is there", -1, x -> x.told(0, 9));
        Scene held = queue(2).then(x -> {
            for (int i = 0; i < 3; i++) {
                x.tick(5);
                x.deliver(x.renew(0, 0, 0));
            }
        });
        held.answers("one that is not CALLED stays", 1, BoundsBoardTest::firstAfterLook);
        Scene granted = s.then(x -> asks(x, 1, 0, 0)).then(x -> x.tick(7));
        granted.answers("behind one GRANTED none is CALLED", 0, x -> x.told(0, 7));
        granted.then(x -> x.look(0)).answers("nor goes", 2, x -> x.told(0, 9));
    }

    private static void firstIsCalled() {
        Document.terms("Then, if the QUEUE has one, there are no GRANTS and the first is not CALLED: it is CALLED, with END c + LONG, "
            + "and a TURN goes to it.");
        Scene empty = with(3, 4, 6, 0);
        empty.refuses("an empty QUEUE", 0, x -> x.look(0));
        Scene held = queue(2);
        held.refuses("there is a GRANT", 1, x -> x.look(0));
        held.then(x -> x.tick(7)).refuses("one before its END", 1, x -> x.look(0));
        int letters = held.board().count(4);
        Scene due = held.then(x -> x.tick(8)).then(x -> x.look(0));
        due.answers("it goes, and the first is CALLED at once", 1, x -> x.told(0, 7));
        due.answers("a TURN", letters + 1, x -> x.count(4));
        Boards.letterIs(due.board(), letters, 6, 1, 0, 0, 0, 0, 0);
        Boards.wroteIs(due.board(), letters, 0, 0, 0);
        due.refuses("CALLED already", 0, x -> x.look(0));
        due.then(x -> x.tick(7)).refuses("CALLED already, one before its END", 0, x -> x.look(0));
        Scene next = due.then(x -> x.tick(8)).then(x -> x.look(0));
        next.answers("one goes, the next is CALLED at once", 2, x -> x.told(0, 9));
        next.answers("a TURN to it", 2, x -> x.letter(letters + 1, 1));
        next.answers("no more", letters + 2, x -> x.count(4));
        Scene none = next.then(x -> x.tick(8)).then(x -> x.look(0));
        none.answers("none is left to be CALLED", letters + 2, x -> x.count(4));
    }

    private static void onlyFits() {
        Document.terms("A WORKER's claim of a THING FITS if, by KIND, there are: ONLY no GRANTS;");
        Scene s = with(3, 0, 10, 0);
        s.answers("none", 4, x -> asks(x, 0, 0, 0));
        Scene one = s.then(x -> asks(x, 0, 0, 0));
        one.answers("one", 5, x -> asks(x, 1, 0, 0));
        one.then(x -> x.tick(11)).answers("one before its END", 5, x -> asks(x, 1, 0, 0));
        one.then(x -> x.tick(12)).answers("at its END", 4, x -> asks(x, 1, 0, 0));
    }

    private static void sharedFits() {
        Document.terms("SHARED, READ: none with WRITE, WRITE: none at all;");
        Scene s = with(20, 1, 10, 0);
        s.answers("READ, none", 4, x -> asks(x, 0, 1, 0));
        s.answers("WRITE, none", 4, x -> asks(x, 0, 0, 0));
        Scene reader = s.then(x -> asks(x, 0, 1, 0));
        reader.answers("READ, one with READ", 4, x -> asks(x, 1, 1, 0));
        reader.answers("WRITE, one with READ", 5, x -> asks(x, 1, 0, 0));
        Scene writer = s.then(x -> asks(x, 0, 0, 0));
        writer.answers("READ, one with WRITE", 5, x -> asks(x, 1, 1, 0));
        writer.answers("WRITE, one with WRITE", 5, x -> asks(x, 1, 0, 0));
        LeaseBoard x = s.board();
        for (int w = 0; w < 20; w++) {
            Check.due("reader " + w, asks(x, w, 1, 0), 4);
        }
        Check.due("all 20 read", x.told(0, 4), 20);
        Check.due("the last", x.grant(0, 19, 0), 19);
    }

    private static void countedFits() {
        Document.terms("COUNTED (WRITE): PARTS that with all others' are at most the WHOLE;");
        for (int whole : new int[] {1, 2, 99, 100}) {
            Scene s = with(4, 2, 10, whole);
            s.answers("the WHOLE " + whole, 4, x -> asks(x, 0, 0, whole));
            s.then(x -> asks(x, 0, 0, whole)).answers("1 beside the WHOLE " + whole, 5, x -> asks(x, 1, 0, 1));
        }
        Scene s = with(4, 2, 10, 10).then(x -> {
            asks(x, 0, 0, 3);
            asks(x, 1, 0, 4);
        });
        s.answers("all but one", 4, x -> asks(x, 2, 0, 2));
        s.answers("just the WHOLE", 4, x -> asks(x, 2, 0, 3));
        s.answers("one above it", 5, x -> asks(x, 2, 0, 4));
        Scene full = s.then(x -> asks(x, 2, 0, 3));
        full.answers("full", 5, x -> asks(x, 3, 0, 1));
        full.then(x -> x.tick(12)).answers("all gone", 4, x -> asks(x, 3, 0, 10));
        LeaseBoard x = with(20, 2, 10, 20).board();
        for (int w = 0; w < 20; w++) {
            Check.due("a part for " + w, asks(x, w, 0, 1), 4);
        }
        Check.due("all 20 have one", x.told(0, 4), 20);
    }

    private static void risingFits() {
        Document.terms("RISING, READ: none with WRITE, and no RISER, WRITE: none at all;");
        Scene s = with(4, 3, 10, 0);
        s.answers("READ, none", 4, x -> asks(x, 0, 1, 0));
        s.answers("WRITE, none", 4, x -> asks(x, 0, 0, 0));
        Scene writer = s.then(x -> asks(x, 0, 0, 0));
        writer.answers("READ, one with WRITE", 5, x -> asks(x, 1, 1, 0));
        writer.answers("WRITE, one with WRITE", 5, x -> asks(x, 1, 0, 0));
        Scene readers = s.then(x -> {
            takes(x, 0, 1, 0);
            takes(x, 1, 1, 0);
        });
        readers.answers("READ, two with READ", 4, x -> asks(x, 2, 1, 0));
        readers.answers("WRITE, two with READ", 5, x -> asks(x, 2, 0, 0));
        Scene riser = readers.then(x -> x.deliver(x.rise(0, 0, 0)));
        riser.answers("READ, a RISER", 5, x -> asks(x, 2, 1, 0));
        riser.answers("WRITE, a RISER", 5, x -> asks(x, 2, 0, 0));
        Scene alone = riser.then(x -> x.deliver(x.end(1, 0, 0)));
        alone.answers("READ, a RISER alone", 5, x -> asks(x, 2, 1, 0));
        Scene gone = alone.then(x -> x.deliver(x.end(0, 0, 0)));
        gone.answers("READ, all gone", 4, x -> asks(x, 2, 1, 0));
        gone.answers("WRITE, all gone", 4, x -> asks(x, 2, 0, 0));
    }

    private static void waitingFits() {
        Document.terms("WAITING no GRANTS, and the QUEUE is empty or this WORKER is its first one.");
        Scene s = with(6, 4, 6, 0);
        s.answers("no GRANTS, an empty QUEUE", 4, x -> asks(x, 3, 0, 0));
        Scene held = queue(2);
        held.then(x -> asks(x, 1, 0, 0)).answers("a GRANT: its first one waits", 1, x -> x.told(0, 4));
        held.then(x -> asks(x, 1, 0, 0)).answers("a GRANT: none is GRANTED", 1, x -> x.count(9));
        Scene free = called();
        free.answers("no GRANTS: its first one", 4, x -> asks(x, 1, 0, 0));
        free.then(x -> asks(x, 2, 0, 0)).answers("its second one", 0, x -> x.told(0, 4));
        free.then(x -> asks(x, 3, 0, 0)).answers("its last one", 0, x -> x.told(0, 4));
        free.then(x -> asks(x, 4, 0, 0)).answers("one that is not in it", 0, x -> x.told(0, 4));
        free.then(x -> asks(x, 4, 0, 0)).answers("comes to its end", 4, x -> x.told(0, 12));
        Scene out = called().then(x -> x.tick(8)).then(x -> asks(x, 1, 0, 0));
        out.answers("CALLED and late, it is its first one no more", 0, x -> x.told(0, 4));
        out.answers("but its last one", 1, x -> x.told(0, 11));
    }

    private static void toGrant() {
        Document.terms("TO GRANT: the last NUMBER of the THING is one more, the GRANT has it, and END c + LONG.");
        LeaseBoard x = with(3, 1, 10, 0).board();
        x.thing(1, 1, 0);
        for (int w = 0; w < 3; w++) {
            asks(x, w, 1, 0);
            Check.due("NUMBER", x.ends(0, w, 0), w + 1);
            Check.due("END", x.ends(0, w, 1), 12 + w);
            x.tick(1);
        }
        x.deliver(x.ask(0, 0, 1, 1, 0));
        Check.due("the NUMBERS of another THING", x.ends(1, 0, 0), 1);
        Check.due("by its own LONG", x.ends(1, 0, 1), 3 + 3);
        x.tick(100);
        asks(x, 1, 1, 0);
        Check.due("all gone, the NUMBERS go on", x.ends(0, 0, 0), 4);
        Check.due("one", x.told(0, 4), 1);
        asks(x, 1, 1, 0);
        Check.due("a NO takes none", asks(x, 2, 1, 0), 4);
        Check.due("NUMBER", x.ends(0, 1, 0), 5);
        Check.due("GRANTED", x.count(9), 6);
    }

    private static void looks() {
        Document.says(20, "THE BOARD is LOOKED AT for a THING by the LEADER: how many GRANTS it has.");
        Scene s = with(20, 1, 10, 0).then(x -> {
            x.thing(1, 10, 0);
            for (int w = 0; w < 20; w++) {
                asks(x, w, 1, 0);
            }
            x.deliver(x.ask(0, 0, 1, 1, 0));
        });
        s.refuses("all 20", 20, x -> x.look(0));
        s.refuses("one", 1, x -> x.look(1));
        Scene late = s.then(x -> x.tick(12));
        late.answers("none", 0, x -> x.look(0));
        late.then(x -> x.look(0)).answers("another THING is not looked at", 1, x -> x.told(1, 4));
    }

    private static void lookIsRefused() {
        Document.says(20, "BAD; STATE: there is no LEADER, or not MOST of the KEEPERS are AWAKE;");
        Scene late = Boards.busy().then(x -> x.tick(100));
        for (int n : new int[] {5, 20, -1, LEAST, MOST}) {
            late.refuses("look(" + n + ")", -2, x -> x.look(n));
        }
        late.answers("the last THING", 0, x -> x.look(4));
        late.then(x -> x.wake(0, 0, false)).refuses("no LEADER any more", -3, x -> x.look(0));
        late.then(x -> {
            x.wake(0, 0, false);
            x.wake(0, 0, true);
        }).refuses("no LEADER, all AWAKE", -3, x -> x.look(0));
        late.then(x -> x.wake(0, 1, false)).answers("two of three", 0, x -> x.look(0));
        Scene one = late.then(x -> {
            x.wake(0, 1, false);
            x.wake(0, 2, false);
        });
        one.refuses("one of three", -3, x -> x.look(0));
        one.refuses("one of three, and none such", -2, x -> x.look(5));
        Scene none = new Scene(0, x -> {
            x.keeper(0, 1000);
            x.thing(0, 1, 0);
        });
        none.refuses("no LEADER yet", -3, x -> x.look(0));
        new Scene(0, x -> x.thing(0, 1, 0)).refuses("no KEEPER at all", -3, x -> x.look(0));
        new Scene(0, x -> { }).refuses("nothing at all", -2, x -> x.look(0));
    }

    private static void lookIsFull() {
        Document.says(20, "FULL: no LETTER more has room.");
        Scene room = Boards.letters(399).then(x -> x.tick(8));
        room.answers("room for one", 0, x -> x.look(1));
        room.then(x -> x.look(1)).answers("it is the TURN", 6, x -> x.letter(399, 0));
        room.then(x -> x.look(1)).answers("CALLED", 1, x -> x.told(1, 7));
        Scene full = Boards.letters(400).then(x -> x.tick(100));
        full.refuses("no room", -4, x -> x.look(1));
        full.refuses("no room, of one that calls nobody", -4, x -> x.look(0));
        full.refuses("no room, of one without GRANTS", -4, x -> x.look(2));
        full.refuses("no room, and none such", -2, x -> x.look(3));
        full.then(x -> x.wake(0, 1, false)).refuses("no room, and not MOST", -3, x -> x.look(1));
    }

    private static void grantsInOrder() {
        Document.says(21, "Of the i-th GRANT of a THING, in the order in which they came (one that was GRANTED anew keeps its place): "
            + "0 WORKER, 1 MODE, 2 PARTS.");
        Scene three = with(5, 2, 10, 9).then(x -> {
            takes(x, 3, 0, 2);
            takes(x, 0, 0, 3);
            takes(x, 4, 0, 4);
        });
        int[] workers = {3, 0, 4};
        for (int i = 0; i < 3; i++) {
            int at = i;
            three.answers("WORKER", workers[i], x -> x.grant(0, at, 0));
            three.answers("MODE", 0, x -> x.grant(0, at, 1));
            three.answers("PARTS", 2 + i, x -> x.grant(0, at, 2));
        }
        Scene renewed = three.then(x -> x.deliver(x.renew(3, 0, 0)));
        renewed.answers("renewed, it keeps its place", 3, x -> x.grant(0, 0, 0));
        Scene ended = three.then(x -> x.deliver(x.end(0, 0, 0)));
        ended.answers("one ended: the next takes its place", 4, x -> x.grant(0, 1, 0));
        ended.then(x -> asks(x, 0, 0, 1)).answers("asked for again, it comes last", 0, x -> x.grant(0, 2, 0));
        Scene risen = with(5, 3, 10, 0).then(x -> {
            takes(x, 3, 1, 0);
            x.deliver(x.rise(3, 0, 0));
        });
        risen.answers("GRANTED anew, it has its place", 3, x -> x.grant(0, 0, 0));
        risen.answers("with WRITE", 0, x -> x.grant(0, 0, 1));
        risen.answers("it is one", -1, x -> x.grant(0, 1, 0));
    }

    private static void grantIsRefused() {
        Document.says(21, "NONE: no such. BAD.");
        Scene busy = Boards.busy();
        busy.refuses("the last", 1, x -> x.grant(1, 1, 0));
        for (int n : new int[] {2, 20, -1, LEAST, MOST}) {
            busy.refuses("GRANT " + n, -1, x -> x.grant(1, n, 0));
        }
        busy.refuses("without GRANTS", -1, x -> x.grant(4, 0, 0));
        for (int n : new int[] {5, 20, -1, LEAST, MOST}) {
            busy.refuses("THING " + n, -2, x -> x.grant(n, 0, 0));
            busy.refuses("what " + n, -2, x -> x.grant(1, 0, n));
            busy.refuses("THING " + n + " and no such GRANT", -2, x -> x.grant(n, 9, 0));
            busy.refuses("what " + n + " and no such GRANT", -2, x -> x.grant(1, 9, n));
        }
        busy.refuses("what 3", -2, x -> x.grant(1, 0, 3));
        new Scene(0, x -> { }).refuses("no THING yet", -2, x -> x.grant(0, 0, 0));
    }

    private static void endsAreTold() {
        Document.says(22, "Its NUMBER (what 0), END (1). NO: no such.");
        Scene busy = Boards.busy();
        busy.refuses("NUMBER of the first", 1, x -> x.ends(1, 0, 0));
        busy.refuses("NUMBER of the last", 2, x -> x.ends(1, 1, 0));
        busy.refuses("END", 3 + 23, x -> x.ends(1, 1, 1));
        for (int n : new int[] {2, 20, -1, LEAST, MOST}) {
            busy.refuses("GRANT " + n, LeaseBoard.NO, x -> x.ends(1, n, 0));
            busy.refuses("what " + n, LeaseBoard.NO, x -> x.ends(1, 0, n));
        }
        for (int n : new int[] {5, 20, -1, LEAST, MOST}) {
            busy.refuses("THING " + n, LeaseBoard.NO, x -> x.ends(n, 0, 0));
        }
        busy.refuses("without GRANTS", LeaseBoard.NO, x -> x.ends(4, 0, 0));
        new Scene(0, x -> { }).refuses("no THING yet", LeaseBoard.NO, x -> x.ends(0, 0, 0));
    }

    private static void told() {
        Document.says(23, "Of a THING: 0 KIND, 1 LENGTH, 2 LONG, 3 WHOLE (0), 4 how many GRANTS, 5 RISER (NONE), 6 how many are in the "
            + "QUEUE, 7 whether its first is CALLED, 8 how many WORKERS MAY use it now;");
        Scene busy = Boards.busy();
        int[][] due = {{0, 10, 13, 0, 1, -1, 0, 0, 1, -1}, {1, 20, 23, 0, 2, -1, 0, 0, 2, -1},
            {2, 30, 33, 5, 2, -1, 0, 0, 2, -1}, {3, 40, 43, 0, 2, 0, 0, 0, 2, -1}, {4, 6, 9, 0, 0, -1, 2, 1, 0, 1, 2, -1}};
        for (int t = 0; t < due.length; t++) {
            int thing = t;
            for (int what = 0; what < due[t].length; what++) {
                int w = what;
                busy.refuses("told(" + t + ", " + what + ")", due[t][what], x -> x.told(thing, w));
            }
        }
        busy.then(x -> x.tick(9)).then(x -> x.worker(0, 1000)).answers("one may no more", 0, x -> x.told(0, 8));
        busy.then(x -> x.tick(8)).answers("one may yet", 1, x -> x.told(0, 8));
        busy.then(x -> x.wake(1, 1, false)).answers("one sleeps", 1, x -> x.told(1, 8));
        LeaseBoard x = with(20, 1, 10, 0).board();
        for (int w = 0; w < 20; w++) {
            takes(x, w, 1, 0);
        }
        Check.due("all 20 may", x.told(0, 8), 20);
    }

    private static void toldOfQueue() {
        Document.says(23, "9 + i the i-th of the QUEUE (NONE).");
        Scene full = queue(8);
        for (int i = 0; i < 8; i++) {
            int at = i;
            full.refuses("the " + i + "-th", i + 1, x -> x.told(0, 9 + at));
        }
        for (int what : new int[] {17, 18, 100, MOST - 1, MOST}) {
            full.refuses("told(0, " + what + ")", -1, x -> x.told(0, what));
        }
        Scene empty = queue(0);
        empty.refuses("an empty one", -1, x -> x.told(0, 9));
        queue(1).refuses("its only one", 1, x -> x.told(0, 9));
        queue(1).refuses("none behind", -1, x -> x.told(0, 10));
        Scene busy = Boards.busy();
        for (int t = 0; t < 4; t++) {
            int thing = t;
            busy.refuses("of a KIND that has none", -1, x -> x.told(thing, 9));
        }
    }

    private static void toldIsBad() {
        Document.says(23, "BAD: no such THING, what below 0.");
        Scene busy = Boards.busy();
        for (int n : new int[] {5, 20, -1, LEAST, MOST}) {
            busy.refuses("THING " + n, -2, x -> x.told(n, 0));
            busy.refuses("THING " + n + ", far what", -2, x -> x.told(n, MOST));
        }
        for (int what : new int[] {-1, -9, LEAST, LEAST + 8}) {
            busy.refuses("what " + what, -2, x -> x.told(4, what));
        }
        new Scene(0, x -> { }).refuses("no THING yet", -2, x -> x.told(0, 0));
    }
}
