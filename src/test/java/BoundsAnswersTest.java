/** The bounds of what the LEADER does with a letter (part 2 of the Terms), each by its sentence. */
public final class BoundsAnswersTest {
    private static final int GRANT = 4, NO = 5, LATE = 7;

    public static void main(String[] args) {
        askOfAHolder();
        askThatFits();
        askThatDoesNotFit();
        renewed();
        renewedTooLate();
        ended();
        endedForNothing();
        endedForOthers();
        riseTooLate();
        riseWithWrite();
        riseBesideAnother();
        riseAlone();
        riseNotAlone();
        Check.end();
    }

    /** No drift, one keeper that leads, 4 workers whose clocks all show TIME, and thing 0. */
    private static Scene with(int kind, int length, int whole) {
        return new Scene(0, x -> {
            x.keeper(0, 1000);
            for (int w = 0; w < 4; w++) {
                x.worker(0, 1000);
            }
            x.thing(kind, length, whole);
            x.lead(0);
        });
    }

    /** Asks for thing 0, is granted it, and hears of it. */
    private static void takes(LeaseBoard x, int worker, int mode, int parts) {
        x.deliver(x.ask(worker, 0, 0, mode, parts));
        Check.due("a GRANT", last(x), GRANT);
        x.deliver(x.count(4) - 1);
    }

    /** The KIND of the last letter. */
    private static long last(LeaseBoard x) {
        return x.letter(x.count(4) - 1, 0);
    }

    /** Delivers it: the KIND of the letter that comes of it, or NONE. */
    private static long sentBy(LeaseBoard x, int letter) {
        int before = x.count(4);
        Check.due("deliver", x.deliver(letter), 1);
        return x.count(4) == before ? -1 : last(x);
    }

    private static void askOfAHolder() {
        Document.terms("ASK: has the WORKER a GRANT of it: a NO.");
        int[][] claims = {{0, 0, 0, 0, 0}, {1, 0, 1, 1, 0}, {1, 0, 1, 0, 0}, {2, 9, 0, 0, 1}, {3, 0, 1, 1, 0}, {4, 0, 0, 0, 0}};
        for (int[] c : claims) {
            Scene held = with(c[0], 10, c[1]).then(x -> takes(x, 0, c[2], c[4]));
            held.answers("it has one, KIND " + c[0], NO, x -> sentBy(x, x.ask(0, 0, 0, c[3], c[4])));
            Scene asked = held.then(x -> x.tick(1)).then(x -> x.deliver(x.ask(0, 0, 0, c[3], c[4])));
            asked.answers("one as before", 1, x -> x.told(0, 4));
            asked.answers("its NUMBER as before", 1, x -> x.ends(0, 0, 0));
            asked.answers("its END as before", 12, x -> x.ends(0, 0, 1));
            asked.answers("its MODE as before", c[2], x -> x.grant(0, 0, 1));
            asked.answers("nobody in the QUEUE", 0, x -> x.told(0, 6));
            asked.answers("a NO is counted", 1, x -> x.count(10));
            Scene late = held.then(x -> x.tick(12));
            late.answers("it is late: it has none", GRANT, x -> sentBy(x, x.ask(0, 0, 0, c[3], c[4])));
        }
    }

    private static void askThatFits() {
        Document.terms("Does it FIT: it is GRANTED as asked (and goes from the QUEUE, if it is in it), a GRANT goes to it.");
        Scene counted = with(2, 10, 9).then(x -> x.deliver(x.ask(3, 0, 0, 0, 7)));
        counted.answers("WORKER", 3, x -> x.grant(0, 0, 0));
        counted.answers("PARTS", 7, x -> x.grant(0, 0, 2));
        Boards.letterIs(counted.board(), 1, GRANT, 3, 0, 0, 0, 7, 0);
        Scene reader = with(1, 10, 0).then(x -> x.deliver(x.ask(3, 0, 0, 1, 0)));
        reader.answers("MODE", 1, x -> x.grant(0, 0, 1));
        Boards.letterIs(reader.board(), 1, GRANT, 3, 0, 0, 1, 0, 0);
        Scene called = with(4, 10, 0).then(x -> {
            takes(x, 0, 0, 0);
            x.deliver(x.ask(1, 0, 0, 0, 0));
            x.deliver(x.ask(2, 0, 0, 0, 0));
            x.deliver(x.end(0, 0, 0));
        });
        Scene granted = called.then(x -> x.deliver(x.ask(1, 0, 0, 0, 0)));
        granted.answers("it is GRANTED", 1, x -> x.grant(0, 0, 0));
        granted.answers("it goes from the QUEUE", 1, x -> x.told(0, 6));
        granted.answers("the next is its first", 2, x -> x.told(0, 9));
        granted.answers("which is not CALLED", 0, x -> x.told(0, 7));
        granted.then(x -> x.tick(11)).answers("one before its END none is CALLED", 1, x -> x.look(0));
        Scene ended = granted.then(x -> x.tick(12)).then(x -> x.look(0));
        ended.answers("at its END the next is CALLED", 1, x -> x.told(0, 7));
    }

    private static void askThatDoesNotFit() {
        Document.terms("Of others a NO.");
        int[][] claims = {{0, 0, 0, 0, 0}, {1, 0, 0, 0, 0}, {1, 0, 0, 1, 0}, {2, 9, 0, 0, 9}, {3, 0, 0, 1, 0}, {3, 0, 1, 0, 0}};
        for (int[] c : claims) {
            Scene held = with(c[0], 10, c[1]).then(x -> takes(x, 0, c[2], c[4]));
            held.answers("a NO, KIND " + c[0], NO, x -> sentBy(x, x.ask(1, 0, 0, c[3], c[4])));
            Scene asked = held.then(x -> x.tick(1)).then(x -> x.deliver(x.ask(1, 0, 0, c[3], c[4])));
            asked.answers("one GRANT as before", 1, x -> x.told(0, 4));
            asked.answers("its END as before", 12, x -> x.ends(0, 0, 1));
            asked.answers("nobody in the QUEUE", 0, x -> x.told(0, 6));
            asked.answers("GRANTED as before", 1, x -> x.count(9));
            asked.answers("it waits till it hears of it", 1, x -> x.holds(1, 0, 4));
        }
    }

    /** Worker 0 holds thing 0 since TIME 0, its END is 12; a RENEW of TIME 3 is letter 2. */
    private static Scene renewing() {
        return with(2, 10, 9).then(x -> {
            takes(x, 0, 0, 4);
            x.tick(3);
            x.renew(0, 0, 0);
        });
    }

    private static void renewed() {
        Document.terms("RENEW: is there its GRANT with that NUMBER: its END is c + LONG, a GRANT goes to it.");
        for (int ticks : new int[] {0, 1, 8}) {
            Scene s = renewing().then(x -> x.tick(ticks));
            s.answers("a GRANT after " + ticks, GRANT, x -> sentBy(x, 2));
            Scene done = s.then(x -> x.deliver(2));
            done.answers("END", 3 + ticks + 12, x -> x.ends(0, 0, 1));
            done.answers("NUMBER as before", 1, x -> x.ends(0, 0, 0));
            done.answers("not GRANTED", 1, x -> x.count(9));
            Boards.letterIs(done.board(), 3, GRANT, 0, 0, 0, 0, 4, 0);
            Boards.wroteIs(done.board(), 3, 1, 3, 2);
        }
        Scene twice = renewing().then(x -> {
            x.twice(2);
            x.deliver(2);
            x.tick(11);
        });
        twice.answers("one like it, one before the new END", GRANT, x -> sentBy(x, 3));
        twice.then(x -> x.tick(1)).answers("one like it, at the new END", LATE, x -> sentBy(x, 3));
    }

    private static void renewedTooLate() {
        Document.terms("Else a LATE.");
        Scene s = renewing();
        s.then(x -> x.tick(8)).answers("one before its END", GRANT, x -> sentBy(x, 2));
        Scene late = s.then(x -> x.tick(9));
        late.answers("at its END", LATE, x -> sentBy(x, 2));
        late.then(x -> x.deliver(2)).answers("none is there", 0, x -> x.told(0, 4));
        late.then(x -> x.deliver(2)).answers("a LATE is counted", 1, x -> x.count(11));
        Scene other = late.then(x -> {
            takes(x, 0, 0, 4);
            x.tick(1);
        });
        other.answers("a GRANT with another NUMBER", LATE, x -> sentBy(x, 2));
        Scene heard = other.then(x -> x.deliver(2));
        heard.answers("its END as before", 24, x -> x.ends(0, 0, 1));
        heard.answers("the NUMBER of the letter", 1, x -> x.wrote(x.count(4) - 1, 0));
        Scene another = s.then(x -> {
            x.deliver(x.end(0, 0, 0));
            takes(x, 1, 0, 9);
        });
        another.answers("another's GRANT alone", LATE, x -> sentBy(x, 2));
    }

    private static void ended() {
        Document.terms("END: is there its GRANT with that NUMBER: it goes, and THE BOARD is LOOKED AT anew.");
        Scene readers = with(1, 10, 0).then(x -> {
            for (int w = 0; w < 3; w++) {
                takes(x, w, 1, 0);
            }
        });
        Scene middle = readers.then(x -> x.deliver(x.end(1, 0, 0)));
        middle.answers("two", 2, x -> x.told(0, 4));
        middle.answers("the first", 0, x -> x.grant(0, 0, 0));
        middle.answers("the last", 2, x -> x.grant(0, 1, 0));
        Scene all = middle.then(x -> {
            x.deliver(x.end(0, 0, 0));
            x.deliver(x.end(2, 0, 0));
        });
        all.answers("none", 0, x -> x.told(0, 4));
        Scene waiting = with(4, 10, 0).then(x -> {
            takes(x, 0, 0, 0);
            x.deliver(x.ask(1, 0, 0, 0, 0));
            x.tick(3);
        });
        waiting.answers("the first of the QUEUE is CALLED", 6, x -> sentBy(x, x.end(0, 0, 0)));
        Scene called = waiting.then(x -> x.deliver(x.end(0, 0, 0)));
        called.then(x -> x.tick(11)).then(x -> x.look(0)).answers("with END c + LONG", 1, x -> x.told(0, 6));
        called.then(x -> x.tick(12)).then(x -> x.look(0)).answers("up to that", 0, x -> x.told(0, 6));
        Scene alone = with(4, 10, 0).then(x -> takes(x, 0, 0, 0));
        alone.answers("nobody to be CALLED", -1, x -> sentBy(x, x.end(0, 0, 0)));
    }

    private static void endedForNothing() {
        Scene old = with(0, 10, 0).then(x -> {
            takes(x, 0, 0, 0);
            int end = x.end(0, 0, 0);
            x.twice(end);
            x.deliver(end);
        });
        old.answers("none of its own", -1, x -> sentBy(x, 3));
        Scene again = old.then(x -> takes(x, 0, 0, 0));
        again.answers("another NUMBER: nothing is sent", -1, x -> sentBy(x, 3));
        again.then(x -> x.deliver(3)).answers("it stays", 2, x -> x.ends(0, 0, 0));
        Scene other = old.then(x -> takes(x, 1, 0, 0));
        other.then(x -> x.deliver(3)).answers("another's stays", 1, x -> x.grant(0, 0, 0));
        Scene late = with(4, 10, 0).then(x -> {
            takes(x, 0, 0, 0);
            x.deliver(x.ask(1, 0, 0, 0, 0));
            x.end(0, 0, 0);
            x.tick(12);
        });
        late.answers("late: the first is CALLED by the look ahead of it", 6, x -> sentBy(x, 3));
        late.then(x -> x.deliver(3)).answers("once", 5, x -> x.count(4));
    }

    /** The look ahead of an END is not for that of its own GRANT alone: worker 1 reads since TIME 1, its END is 13. */
    private static void endedForOthers() {
        Document.terms("Else THE BOARD is LOOKED AT for the THING; then");
        Scene old = with(1, 10, 0).then(x -> {
            takes(x, 0, 1, 0);
            x.deliver(x.twice(x.end(0, 0, 0)));
            x.tick(1);
            takes(x, 1, 1, 0);
        });
        old.answers("the END that is like the one delivered", 2, x -> x.letter(2, 0));
        Scene before = old.then(x -> x.tick(11)).then(x -> x.deliver(2));
        before.answers("one before the other's END", 1, x -> x.told(0, 4));
        Scene at = old.then(x -> x.tick(12)).then(x -> x.deliver(2));
        at.answers("at the other's END", 0, x -> x.told(0, 4));
    }

    /** Workers 0 to n - 1 read thing 0 since TIME 0; their END is 12. */
    private static Scene readers(int n) {
        return with(3, 10, 0).then(x -> {
            for (int w = 0; w < n; w++) {
                takes(x, w, 1, 0);
            }
        });
    }

    private static void riseTooLate() {
        Document.terms("RISE: is there not its GRANT with that NUMBER: a LATE.");
        Scene s = readers(1).then(x -> x.rise(0, 0, 0));
        s.then(x -> x.tick(11)).answers("one before its END", GRANT, x -> sentBy(x, 2));
        Scene late = s.then(x -> x.tick(12));
        late.answers("at its END", LATE, x -> sentBy(x, 2));
        late.then(x -> x.deliver(2)).answers("no RISER", -1, x -> x.told(0, 5));
        late.then(x -> x.deliver(2)).answers("none is GRANTED", 1, x -> x.count(9));
        Scene other = late.then(x -> takes(x, 0, 1, 0));
        other.answers("a GRANT with another NUMBER", LATE, x -> sentBy(x, 2));
        other.then(x -> x.deliver(2)).answers("it reads as before", 1, x -> x.grant(0, 0, 1));
        Scene anew = s.then(x -> {
            x.twice(2);
            x.deliver(2);
        });
        anew.answers("one like it, after it was GRANTED anew", LATE, x -> sentBy(x, 3));
        anew.then(x -> x.deliver(3)).answers("its NUMBER", 1, x -> x.wrote(5, 0));
    }

    private static void riseWithWrite() {
        Document.terms("Has it WRITE: its END is c + LONG, a GRANT goes to it.");
        Scene s = with(3, 10, 0).then(x -> {
            takes(x, 0, 0, 0);
            x.tick(5);
            x.rise(0, 0, 0);
            x.tick(1);
        });
        s.answers("a GRANT", GRANT, x -> sentBy(x, 2));
        Scene done = s.then(x -> x.deliver(2));
        done.answers("END", 6 + 12, x -> x.ends(0, 0, 1));
        done.answers("NUMBER as before", 1, x -> x.ends(0, 0, 0));
        done.answers("MODE", 0, x -> x.grant(0, 0, 1));
        done.answers("not GRANTED anew", 1, x -> x.count(9));
        done.answers("no RISER", -1, x -> x.told(0, 5));
        Boards.letterIs(done.board(), 3, GRANT, 0, 0, 0, 0, 0, 0);
        Boards.wroteIs(done.board(), 3, 1, 5, 2);
    }

    private static void riseBesideAnother() {
        Document.terms("Is there another RISER: a NO.");
        Scene riser = readers(3).then(x -> x.deliver(x.rise(1, 0, 0)));
        riser.answers("RISER", 1, x -> x.told(0, 5));
        riser.answers("another", NO, x -> sentBy(x, x.rise(0, 0, 0)));
        Scene refused = riser.then(x -> x.tick(3)).then(x -> x.deliver(x.rise(0, 0, 0)));
        refused.answers("the RISER stays", 1, x -> x.told(0, 5));
        refused.answers("a NO is counted", 1, x -> x.count(10));
        refused.answers("its END as before", 12, x -> x.ends(0, 0, 1));
        refused.answers("the RISER's END as before", 12, x -> x.ends(0, 1, 1));
        refused.answers("none is GRANTED", 3, x -> x.count(9));
        riser.answers("itself again: nothing", -1, x -> sentBy(x, x.rise(1, 0, 0)));
        Scene ended = riser.then(x -> x.deliver(x.end(1, 0, 0)));
        ended.answers("it ended: another rises", -1, x -> sentBy(x, x.rise(0, 0, 0)));
        ended.then(x -> x.deliver(x.rise(0, 0, 0))).answers("and is the RISER", 0, x -> x.told(0, 5));
        Scene lateRiser = with(3, 10, 0).then(x -> {
            takes(x, 1, 1, 0);
            x.tick(1);
            takes(x, 0, 1, 0);
            x.deliver(x.rise(1, 0, 0));
            x.rise(0, 0, 0);
        });
        lateRiser.then(x -> x.tick(10)).answers("one before the RISER's END", NO, x -> sentBy(x, 5));
        lateRiser.then(x -> x.tick(11)).answers("at the RISER's END", GRANT, x -> sentBy(x, 5));
    }

    private static void riseAlone() {
        Document.terms("Else it is the RISER; if it has the only GRANT: that is GRANTED anew, with WRITE (no RISER then), and a GRANT "
            + "goes to it;");
        Scene s = readers(1).then(x -> {
            x.tick(4);
            x.rise(0, 0, 0);
            x.tick(1);
        });
        s.answers("a GRANT", GRANT, x -> sentBy(x, 2));
        Scene risen = s.then(x -> x.deliver(2));
        risen.answers("one", 1, x -> x.told(0, 4));
        risen.answers("WRITE", 0, x -> x.grant(0, 0, 1));
        risen.answers("NUMBER", 2, x -> x.ends(0, 0, 0));
        risen.answers("END", 5 + 12, x -> x.ends(0, 0, 1));
        risen.answers("GRANTED twice", 2, x -> x.count(9));
        risen.answers("no RISER", -1, x -> x.told(0, 5));
        Boards.letterIs(risen.board(), 3, GRANT, 0, 0, 0, 0, 0, 0);
        Boards.wroteIs(risen.board(), 3, 2, 4, 2);
        Scene heard = risen.then(x -> x.deliver(3));
        heard.answers("it holds WRITE", 0, x -> x.holds(0, 0, 2));
        heard.answers("with the new NUMBER", 2, x -> x.held(0, 0, 0));
        Scene riser = readers(2).then(x -> {
            x.deliver(x.rise(0, 0, 0));
            x.deliver(x.end(1, 0, 0));
        });
        riser.answers("alone by now, it is not GRANTED of itself", 1, x -> x.grant(0, 0, 1));
        riser.answers("but when it rises again", GRANT, x -> sentBy(x, x.rise(0, 0, 0)));
        riser.then(x -> x.deliver(x.rise(0, 0, 0))).answers("no RISER then", -1, x -> x.told(0, 5));
    }

    private static void riseNotAlone() {
        Document.terms("else nothing.");
        Scene two = readers(2).then(x -> x.rise(0, 0, 0));
        two.answers("nothing is sent", -1, x -> sentBy(x, 4));
        Scene riser = two.then(x -> x.tick(3)).then(x -> x.deliver(4));
        riser.answers("RISER", 0, x -> x.told(0, 5));
        riser.answers("READ as before", 1, x -> x.grant(0, 0, 1));
        riser.answers("its END as before", 12, x -> x.ends(0, 0, 1));
        riser.answers("GRANTED as before", 2, x -> x.count(9));
        riser.answers("no NO", 0, x -> x.count(10));
        riser.answers("it waits on", 1, x -> x.holds(0, 0, 4));
        Scene late = with(3, 10, 0).then(x -> {
            takes(x, 1, 1, 0);
            x.tick(1);
            takes(x, 0, 1, 0);
            x.rise(0, 0, 0);
        });
        late.then(x -> x.tick(10)).answers("one before the other's END", -1, x -> sentBy(x, 4));
        late.then(x -> x.tick(11)).answers("at the other's END it is alone", GRANT, x -> sentBy(x, 4));
    }
}
