/** The bounds of promises 15 to 19, of letters, and of what they do to a worker, each by its sentence. */
public final class BoundsLettersTest {
    private static final int LEAST = Integer.MIN_VALUE, MOST = Integer.MAX_VALUE;

    public static void main(String[] args) {
        underWay();
        zerosOfLetters();
        answersAreAlike();
        noToARise();
        delivered();
        notToTheLeader();
        notToOneAsleep();
        deliverIsBad();
        deliverIsFull();
        loses();
        loseIsRefused();
        doubles();
        twiceIsRefused();
        letters();
        wrote();
        grantForAMark();
        grantInTime();
        noForAMark();
        lateForANumber();
        turnsAreCounted();
        mayUse();
        Check.end();
    }

    private static void underWay() {
        Document.terms("They are UNDER WAY, till they are delivered or lost.");
        LeaseBoard x = Boards.plain(1, 1);
        x.thing(0, 10, 0);
        int a = x.ask(0, 0, 0, 0, 0);
        int b = x.ask(0, 0, 0, 0, 0);
        Check.due("two", x.count(5), 2);
        Check.due("under way", x.letter(a, 6), 0);
        x.tick(100000);
        Check.due("however late", x.letter(a, 6), 0);
        x.deliver(a);
        Check.due("delivered", x.letter(a, 6), 1);
        Check.due("its answer is under way", x.letter(2, 6), 0);
        Check.due("two", x.count(5), 2);
        x.lose(b);
        Check.due("lost", x.letter(b, 6), 2);
        Check.due("one", x.count(5), 1);
        x.lose(2);
        Check.due("none", x.count(5), 0);
        Check.due("there are three all the same", x.count(4), 3);
    }

    private static void zerosOfLetters() {
        Document.terms("LETTERS have a KIND, a WORKER, a KEEPER, a THING, a MODE, PARTS, a NUMBER (0 of ASK, NO, TURN), a MARK "
            + "and ASKED (both 0 of END, TURN, LATE):");
        LeaseBoard x = Boards.plain(1, 2);
        x.thing(2, 10, 9);
        x.thing(4, 10, 0);
        x.tick(7);
        int ask = x.ask(1, 0, 0, 0, 9);
        Boards.wroteIs(x, ask, 0, 7, 1);
        x.deliver(Boards.answered(x, ask));
        int renew = x.renew(1, 0, 0);
        Boards.wroteIs(x, renew, 1, 7, 2);
        Boards.wroteIs(x, Boards.answered(x, x.ask(1, 0, 0, 0, 9)), 0, 7, 3);
        int end = x.end(1, 0, 0);
        Boards.wroteIs(x, end, 1, 0, 0);
        x.deliver(end);
        int late = Boards.answered(x, renew);
        Boards.letterIs(x, late, 7, 1, 0, 0, 0, 0, 0);
        Boards.wroteIs(x, late, 1, 0, 0);
        Boards.taken(x, 0, 1, 0, 0);
        Boards.asked(x, 1, 1, 0, 0);
        int turn = Boards.answered(x, x.end(0, 0, 1));
        Boards.letterIs(x, turn, 6, 1, 0, 1, 0, 0, 0);
        Boards.wroteIs(x, turn, 0, 0, 0);
    }

    /** The answer is told apart from what asks for it by numbers that all differ. */
    private static void answersAreAlike() {
        Document.terms("An answer has WORKER, KEEPER, THING, MARK, ASKED of what it answers; a GRANT MODE, PARTS, NUMBER of the "
            + "GRANT as it is then, a LATE the NUMBER of the letter, else MODE, PARTS 0. (A TURN is from the LEADER.)");
        LeaseBoard x = new LeaseBoard(0);
        for (int k = 0; k < 3; k++) {
            x.keeper(0, 1000);
            x.worker(-100, 1000);
        }
        x.thing(0, 10, 0);
        x.thing(3, 10, 0);
        x.thing(4, 10, 0);
        x.lead(2);
        x.deliver(x.ask(1, 2, 1, 1, 0));
        Boards.letterIs(x, 1, 4, 1, 2, 1, 1, 0, 0);
        Boards.wroteIs(x, 1, 1, -100, 1);
        x.deliver(1);
        x.tick(3);
        int no = Boards.answered(x, x.ask(1, 2, 1, 1, 0));
        Boards.letterIs(x, no, 5, 1, 2, 1, 0, 0, 0);
        Boards.wroteIs(x, no, 0, -97, 2);
        int rise = x.rise(1, 2, 1);
        int renew = x.renew(1, 2, 1);
        x.tick(1);
        int grant = Boards.answered(x, rise);
        Boards.letterIs(x, grant, 4, 1, 2, 1, 0, 0, 0);
        Boards.wroteIs(x, grant, 2, -97, 3);
        int late = Boards.answered(x, renew);
        Boards.letterIs(x, late, 7, 1, 2, 1, 0, 0, 0);
        Boards.wroteIs(x, late, 1, 0, 0);
        x.deliver(Boards.answered(x, x.ask(1, 2, 2, 0, 0)));
        x.deliver(x.ask(0, 2, 2, 0, 0));
        x.lead(1);
        int turn = Boards.answered(x, x.end(1, 1, 2));
        Boards.letterIs(x, turn, 6, 0, 1, 2, 0, 0, 0);
        Boards.wroteIs(x, turn, 0, 0, 0);
    }

    private static void delivered() {
        Document.says(15, "A LETTER is delivered: 1: to the LEADER, MOST of the KEEPERS being AWAKE, or to a WORKER that is AWAKE; "
            + "else 0 (nothing happens).");
        Document.terms("Else THE BOARD is LOOKED AT for the THING; then");
        Scene asked = Boards.letters(7);
        asked.answers("to the LEADER", 1, x -> x.deliver(5));
        Scene granted = asked.then(x -> x.deliver(5));
        granted.answers("a GRANT goes out", 4, x -> x.letter(7, 0));
        granted.answers("to a WORKER that is AWAKE", 1, x -> x.deliver(7));
        Scene late = Boards.letters(7).then(x -> x.tick(12));
        late.then(x -> x.deliver(x.ask(1, 0, 0, 1, 0))).answers("what is late went ahead of that", 1, x -> x.grant(0, 0, 0));
        late.then(x -> x.deliver(5)).answers("of another THING nothing went", 1, x -> x.told(0, 4));
    }

    /** That it is delivered is all that changes: it is as if it were lost. */
    private static void nothingHappens(String what, Scene s, int letter) {
        s.answers(what, 0, x -> x.deliver(letter));
        Scene after = s.then(x -> x.deliver(letter));
        after.answers(what + ": it is delivered", 1, x -> x.letter(letter, 6));
        Picture.alikeButHowIs(letter, what, s.then(x -> x.lose(letter)), after);
    }

    private static void notToTheLeader() {
        Document.terms("Delivered to a KEEPER that is not the LEADER, not AWAKE, or while not MOST of the KEEPERS are AWAKE: "
            + "nothing happens.");
        Scene late = Boards.busy().then(x -> x.tick(12));
        int next = late.board().count(4);
        Scene asked = late.then(x -> {
            x.ask(2, 0, 0, 0, 0);
            x.ask(2, 1, 0, 0, 0);
            x.renew(0, 1, 0);
            x.end(1, 1, 1);
            x.rise(1, 1, 3);
        });
        for (int l = next + 1; l < next + 5; l++) {
            nothingHappens("to a KEEPER that is not the LEADER, " + l, asked, l);
        }
        asked.answers("to the LEADER", 1, x -> x.deliver(next));
        nothingHappens("not AWAKE", asked.then(x -> x.wake(0, 0, false)), next);
        nothingHappens("AWAKE again, and no LEADER", asked.then(x -> {
            x.wake(0, 0, false);
            x.wake(0, 0, true);
        }), next);
        nothingHappens("another leads", asked.then(x -> x.lead(1)), next);
        asked.then(x -> x.wake(0, 1, false)).answers("MOST are AWAKE", 1, x -> x.deliver(next));
        nothingHappens("not MOST are AWAKE", asked.then(x -> {
            x.wake(0, 1, false);
            x.wake(0, 2, false);
        }), next);
    }

    private static void notToOneAsleep() {
        Document.terms("Delivered to a WORKER that is not AWAKE: nothing happens.");
        int ask = Boards.busy().board().count(4) - 1;
        Scene answered = Boards.busy().then(y -> {
            y.deliver(ask);
            y.deliver(y.renew(1, 0, 1));
            y.deliver(y.ask(2, 0, 1, 1, 0));
            int renew = y.renew(0, 0, 0);
            y.tick(12);
            y.deliver(renew);
            y.deliver(y.ask(3, 0, 4, 0, 0));
        });
        int[] seen = new int[8];
        LeaseBoard x = answered.board();
        for (int l = ask + 1; l < x.count(4); l++) {
            int letter = l;
            int kind = x.letter(l, 0);
            int worker = x.letter(l, 1);
            seen[kind]++;
            if (kind >= 4) {
                answered.answers("KIND " + kind + " to one awake", 1, z -> z.deliver(letter));
                nothingHappens("KIND " + kind + " to one asleep", answered.then(z -> z.wake(1, worker, false)), l);
            }
        }
        for (int kind = 4; kind < 8; kind++) {
            Check.due("letters of KIND " + kind, seen[kind], kind == 4 ? 2 : 1);
        }
    }

    private static void deliverIsBad() {
        Document.says(15, "BAD; STATE: it is not UNDER WAY;");
        Scene seven = Boards.letters(7);
        for (int n : new int[] {7, 400, -1, LEAST, MOST}) {
            seven.refuses("deliver(" + n + ")", -2, x -> x.deliver(n));
        }
        new Scene(0, x -> { }).refuses("none yet", -2, x -> x.deliver(0));
        seven.answers("the last", 1, x -> x.deliver(6));
        seven.then(x -> x.deliver(6)).refuses("delivered", -3, x -> x.deliver(6));
        seven.then(x -> x.lose(6)).refuses("lost", -3, x -> x.deliver(6));
        Scene nowhere = seven.then(x -> {
            x.wake(0, 0, false);
            x.deliver(6);
            x.wake(0, 0, true);
            x.lead(0);
        });
        nowhere.refuses("delivered to one asleep", -3, x -> x.deliver(6));
        seven.then(x -> x.deliver(6)).answers("one like it", 1, x -> x.deliver(x.twice(6)));
    }

    private static void deliverIsFull() {
        Document.says(15, "FULL: fewer than 3 more LETTERS have room (it stays UNDER WAY).");
        Scene room = Boards.letters(397);
        room.answers("room for 3", 1, x -> x.deliver(396));
        room.then(x -> x.deliver(396)).answers("its answer", 4, x -> x.letter(397, 0));
        Scene two = Boards.letters(398);
        two.refuses("room for 2", -4, x -> x.deliver(396));
        two.answers("it stays under way", 0, x -> {
            x.deliver(396);
            return x.letter(396, 6);
        });
        Boards.letters(399).refuses("room for 1", -4, x -> x.deliver(5));
        Boards.letters(400).refuses("no room", -4, x -> x.deliver(5));
        Scene answer = Boards.letters(396).then(x -> x.deliver(5));
        answer.answers("to a WORKER, room for 3", 1, x -> x.deliver(396));
        answer.then(x -> x.twice(5)).refuses("to a WORKER, room for 2", -4, x -> x.deliver(396));
        two.then(x -> x.wake(0, 0, false)).refuses("to a KEEPER asleep, room for 2", -4, x -> x.deliver(396));
        two.refuses("STATE comes first", -3, x -> x.deliver(0));
    }

    private static void loses() {
        Document.says(16, "It is lost: 1.");
        Scene seven = Boards.letters(7);
        seven.answers("lose", 1, x -> x.lose(6));
        Scene lost = seven.then(x -> x.lose(6));
        lost.answers("lost", 2, x -> x.letter(6, 6));
        lost.answers("it waits on", 1, x -> x.holds(1, 2, 4));
        lost.answers("nothing came of it", 0, x -> x.told(2, 4));
        Boards.letters(400).answers("with no room for any", 1, x -> x.lose(399));
    }

    private static void loseIsRefused() {
        Document.says(16, "BAD; STATE.");
        Scene seven = Boards.letters(7);
        for (int n : new int[] {7, 400, -1, LEAST, MOST}) {
            seven.refuses("lose(" + n + ")", -2, x -> x.lose(n));
        }
        new Scene(0, x -> { }).refuses("none yet", -2, x -> x.lose(0));
        seven.refuses("delivered", -3, x -> x.lose(0));
        seven.then(x -> x.lose(6)).refuses("lost", -3, x -> x.lose(6));
    }

    private static void doubles() {
        Document.says(17, "A LETTER more that is like it, UNDER WAY: its number.");
        Scene busy = Boards.busy();
        int n = busy.board().count(4);
        for (int l = 0; l < n; l++) {
            int letter = l;
            busy.answers("the next number", n, x -> x.twice(letter));
            LeaseBoard x = busy.then(y -> y.twice(letter)).board();
            for (int what = 0; what < 6; what++) {
                Check.due("letter, " + what, x.letter(n, what), x.letter(l, what));
            }
            for (int what = 0; what < 3; what++) {
                Check.due("wrote, " + what, x.wrote(n, what), x.wrote(l, what));
            }
            Check.due("under way", x.letter(n, 6), 0);
            Check.due("the one as it was", x.letter(l, 6), busy.board().letter(l, 6));
        }
        Scene twice = busy.then(x -> x.twice(0));
        twice.answers("the one like it is lost for itself", 1, x -> {
            x.lose(n);
            return x.letter(0, 6);
        });
    }

    private static void twiceIsRefused() {
        Document.says(17, "BAD; FULL.");
        Scene seven = Boards.letters(7);
        for (int n : new int[] {7, 400, -1, LEAST, MOST}) {
            seven.refuses("twice(" + n + ")", -2, x -> x.twice(n));
        }
        new Scene(0, x -> { }).refuses("none yet", -2, x -> x.twice(0));
        Boards.letters(399).answers("the last room", 399, x -> x.twice(398));
        Scene full = Boards.letters(400);
        full.refuses("no room", -4, x -> x.twice(399));
        full.refuses("no room for one delivered", -4, x -> x.twice(0));
        full.refuses("none such", -2, x -> x.twice(400));
    }

    private static void letters() {
        Document.says(18, "Of a LETTER: 0 KIND, 1 WORKER, 2 KEEPER, 3 THING, 4 MODE, 5 PARTS, 6 how it is: 0 UNDER WAY, "
            + "1 delivered, 2 lost. BAD.");
        LeaseBoard x = new LeaseBoard(0);
        for (int i = 0; i < 4; i++) {
            x.keeper(0, 1000);
            x.worker(0, 1000);
            x.thing(i == 3 ? 2 : 1, 10, i == 3 ? 7 : 0);
        }
        Boards.letterIs(x, x.ask(2, 1, 3, 0, 7), 0, 2, 1, 3, 0, 7, 0);
        Boards.letterIs(x, x.ask(3, 2, 0, 1, 0), 0, 3, 2, 0, 1, 0, 0);
        x.deliver(0);
        x.lose(1);
        Check.due("delivered", x.letter(0, 6), 1);
        Check.due("lost", x.letter(1, 6), 2);
        Scene seven = Boards.letters(7);
        for (int n : new int[] {7, 400, -1, LEAST, MOST}) {
            seven.refuses("letter(" + n + ", 0)", -2, y -> y.letter(n, 0));
            seven.refuses("letter(0, " + n + ")", -2, y -> y.letter(0, n));
        }
        new Scene(0, y -> { }).refuses("none yet", -2, y -> y.letter(0, 0));
        Boards.letters(400).refuses("the last", 0, y -> y.letter(399, 0));
        Boards.letters(400).refuses("none behind", -2, y -> y.letter(400, 0));
    }

    private static void wrote() {
        Document.says(19, "Its NUMBER (what 0), ASKED (1), MARK (2). NO: no such.");
        LeaseBoard x = Boards.plain(1, 2);
        x.thing(1, 10, 0);
        Boards.taken(x, 0, 0, 1, 0);
        Boards.taken(x, 1, 0, 1, 0);
        x.tick(5);
        x.renew(1, 0, 0);
        x.renew(1, 0, 0);
        Boards.wroteIs(x, 5, 2, 5, 3);
        Scene seven = Boards.letters(7);
        for (int n : new int[] {7, 400, -1, LEAST, MOST}) {
            seven.refuses("wrote(" + n + ", 0)", LeaseBoard.NO, y -> y.wrote(n, 0));
            seven.refuses("wrote(0, " + n + ")", LeaseBoard.NO, y -> y.wrote(0, n));
        }
        seven.refuses("what 3", LeaseBoard.NO, y -> y.wrote(0, 3));
        new Scene(0, y -> { }).refuses("none yet", LeaseBoard.NO, y -> y.wrote(0, 0));
        Boards.letters(400).refuses("the last", 396, y -> y.wrote(399, 2));
        Boards.letters(400).refuses("none behind", LeaseBoard.NO, y -> y.wrote(400, 2));
    }

    /** Worker 0 has a GRANT of each of two THINGS on the way: letters 2 and 3, MARKS 1 and 2. */
    private static Scene granted(int length) {
        return new Scene(0, x -> {
            x.keeper(0, 1000);
            x.worker(0, 1000);
            x.thing(1, length, 0);
            x.thing(1, length, 0);
            x.lead(0);
            x.ask(0, 0, 0, 1, 0);
            x.ask(0, 0, 1, 1, 0);
            x.deliver(0);
            x.deliver(1);
        });
    }

    private static void grantForAMark() {
        Document.terms("Else GRANT: if its MARK is the one for which it WAITS of that THING, it does not wait any more,");
        Scene s = granted(10);
        Scene heard = s.then(x -> x.deliver(2));
        heard.answers("it waits no more", 0, x -> x.holds(0, 0, 4));
        heard.answers("it holds", 1, x -> x.holds(0, 0, 1));
        heard.answers("of the other it waits", 1, x -> x.holds(0, 1, 4));
        heard.answers("and holds nothing", 0, x -> x.holds(0, 1, 1));
        Scene again = s.then(x -> {
            x.twice(2);
            x.deliver(2);
            x.end(0, 0, 0);
        });
        Picture.alikeButHowIs(4, "it waits for nothing", again.then(x -> x.lose(4)), again.then(x -> x.deliver(4)));
        Scene later = s.then(x -> x.ask(0, 0, 0, 1, 0));
        Picture.alikeButHowIs(2, "an older MARK", later.then(x -> x.lose(2)), later.then(x -> x.deliver(2)));
        Scene fallen = s.then(x -> {
            x.fall(0);
            x.wake(1, 0, true);
        });
        Picture.alikeButHowIs(2, "it fell", fallen.then(x -> x.lose(2)), fallen.then(x -> x.deliver(2)));
    }

    private static void grantInTime() {
        Document.terms("and, if ASKED + L is above its CLOCK, it HOLDS the THING with MODE, PARTS, NUMBER, until ASKED + L "
            + "(in place of what it held).");
        for (int length : new int[] {1, 2, 10, 1000}) {
            Scene last = granted(length).then(x -> {
                x.tick(length - 1);
                x.deliver(2);
            });
            last.answers("one before", 1, x -> x.holds(0, 0, 1));
            last.answers("until", length, x -> x.held(0, 0, 1));
            last.answers("MODE", 1, x -> x.holds(0, 0, 2));
            last.answers("NUMBER", 1, x -> x.held(0, 0, 0));
            last.answers("it may use it", 1, x -> x.holds(0, 0, 0));
            Scene late = granted(length).then(x -> {
                x.tick(length);
                x.deliver(2);
            });
            late.answers("just too late", 0, x -> x.holds(0, 0, 1));
            late.answers("it waits no more all the same", 0, x -> x.holds(0, 0, 4));
            late.answers("of the other it waits", 1, x -> x.holds(0, 1, 4));
        }
        renewedInTime();
        counted();
    }

    private static void renewedInTime() {
        Scene renewed = granted(10).then(x -> {
            x.deliver(2);
            x.tick(4);
            x.deliver(x.renew(0, 0, 0));
        });
        Scene last = renewed.then(x -> {
            x.tick(9);
            x.deliver(5);
        });
        last.answers("in place of what it held: until", 14, x -> x.held(0, 0, 1));
        Scene late = renewed.then(x -> {
            x.tick(10);
            x.deliver(5);
        });
        late.answers("too late: what it held it holds, until", 10, x -> x.held(0, 0, 1));
        late.answers("NUMBER", 1, x -> x.held(0, 0, 0));
        late.answers("it waits no more", 0, x -> x.holds(0, 0, 4));
    }

    private static void counted() {
        LeaseBoard x = new LeaseBoard(0);
        x.keeper(0, 1000);
        x.worker(-1000000, 1000);
        x.thing(2, 1000, 100);
        x.lead(0);
        x.deliver(x.ask(0, 0, 0, 0, 100));
        x.tick(999);
        x.deliver(1);
        Check.due("PARTS", x.holds(0, 0, 3), 100);
        Check.due("MODE", x.holds(0, 0, 2), 0);
        Check.due("until, below 0", x.held(0, 0, 1), -999000);
        Check.due("it may use it", x.holds(0, 0, 0), 1);
    }

    private static void noForAMark() {
        Document.terms("NO: if it WAITS for its MARK, it does not any more.");
        Scene refused = granted(10).then(x -> {
            x.deliver(2);
            x.deliver(3);
            x.ask(0, 0, 0, 1, 0);
            x.ask(0, 0, 1, 1, 0);
            x.deliver(4);
        });
        refused.answers("a NO", 5, x -> x.letter(6, 0));
        Scene heard = refused.then(x -> x.deliver(6));
        heard.answers("it waits no more", 0, x -> x.holds(0, 0, 4));
        heard.answers("it holds what it held", 1, x -> x.holds(0, 0, 1));
        heard.answers("of the other it waits", 1, x -> x.holds(0, 1, 4));
        Scene later = refused.then(x -> x.renew(0, 0, 0));
        Picture.alikeButHowIs(6, "an older MARK", later.then(x -> x.lose(6)), later.then(x -> x.deliver(6)));
        Scene none = refused.then(x -> {
            x.twice(6);
            x.deliver(6);
        });
        Picture.alikeButHowIs(7, "once more", none.then(x -> x.lose(7)), none.then(x -> x.deliver(7)));
    }

    private static void lateForANumber() {
        Document.terms("LATE: if it HOLDS it with that NUMBER, it does not any more.");
        Scene late = granted(10).then(x -> {
            x.deliver(2);
            x.deliver(3);
            x.renew(0, 0, 0);
            x.tick(12);
            x.deliver(4);
        });
        late.answers("a LATE", 7, x -> x.letter(5, 0));
        late.answers("of NUMBER 1", 1, x -> x.wrote(5, 0));
        Scene heard = late.then(x -> x.deliver(5));
        heard.answers("it holds it no more", 0, x -> x.holds(0, 0, 1));
        heard.answers("it waits on", 1, x -> x.holds(0, 0, 4));
        heard.answers("the other, of the same NUMBER, it holds", 1, x -> x.held(0, 1, 0));
        Scene newer = late.then(x -> {
            x.deliver(x.ask(0, 0, 0, 1, 0));
            x.deliver(7);
        });
        newer.answers("NUMBER 2", 2, x -> x.held(0, 0, 0));
        Picture.alikeButHowIs(5, "another NUMBER", newer.then(x -> x.lose(5)), newer.then(x -> x.deliver(5)));
        Scene ended = late.then(x -> x.end(0, 0, 0));
        Picture.alikeButHowIs(5, "it holds nothing", ended.then(x -> x.lose(5)), ended.then(x -> x.deliver(5)));
    }

    private static void turnsAreCounted() {
        Document.terms("TURN: it is counted.");
        Scene called = Boards.letters(7).then(x -> x.deliver(x.end(0, 0, 1)));
        called.answers("a TURN", 6, x -> x.letter(8, 0));
        called.answers("not yet", 0, x -> x.count(12));
        called.then(x -> x.deliver(8)).answers("one", 1, x -> x.count(12));
        called.then(x -> x.deliver(8)).answers("it waits on", 1, x -> x.holds(1, 1, 4));
        called.then(x -> x.lose(8)).answers("a lost one", 0, x -> x.count(12));
        called.then(x -> {
            x.deliver(x.twice(8));
            x.deliver(8);
        }).answers("one like it, too", 2, x -> x.count(12));
        Scene held = called.then(x -> {
            int ask = x.ask(1, 0, 1, 0, 0);
            x.deliver(ask);
            x.deliver(ask + 1);
        });
        held.answers("it holds it by now", 1, x -> x.holds(1, 1, 1));
        held.then(x -> x.deliver(8)).answers("late, it is counted all the same", 1, x -> x.count(12));
        held.then(x -> x.deliver(8)).answers("and it holds on", 1, x -> x.holds(1, 1, 1));
    }

    /** What a RISE has that an ASK has not, its NUMBER, does not come back with a NO. */
    private static void noToARise() {
        LeaseBoard x = new LeaseBoard(0);
        for (int n = 0; n < 2; n++) {
            x.keeper(0, 1000);
            x.worker(-100 * n, 1000);
            x.thing(3, 10, 0);
        }
        x.lead(1);
        for (int worker = 0; worker < 2; worker++) {
            x.deliver(Boards.answered(x, x.ask(worker, 1, 1, 1, 0)));
        }
        Check.due("a RISER", Boards.answered(x, x.rise(0, 1, 1)), -1);
        x.tick(3);
        int rise = x.rise(1, 1, 1);
        Boards.wroteIs(x, rise, 2, -97, 2);
        x.tick(1);
        int no = Boards.answered(x, rise);
        Boards.letterIs(x, no, 5, 1, 1, 1, 0, 0, 0);
        Boards.wroteIs(x, no, 0, -97, 2);
        Check.due("it waits", x.holds(1, 1, 4), 1);
        x.deliver(no);
        Check.due("for that MARK no more", x.holds(1, 1, 4), 0);
        Check.due("and reads on", x.holds(1, 1, 2), 1);
    }

    private static void mayUse() {
        Document.terms("A WORKER MAY use a THING if it is AWAKE, HOLDS it, and its CLOCK is below until.");
        Scene held = granted(10).then(x -> x.deliver(2));
        held.answers("at once", 1, x -> x.holds(0, 0, 0));
        held.answers("what it does not hold", 0, x -> x.holds(0, 1, 0));
        Scene last = held.then(x -> x.tick(9));
        last.answers("CLOCK one below until", 1, x -> x.holds(0, 0, 0));
        last.answers("one may", 1, x -> x.told(0, 8));
        Scene late = held.then(x -> x.tick(10));
        late.answers("CLOCK at until", 0, x -> x.holds(0, 0, 0));
        late.answers("none may", 0, x -> x.told(0, 8));
        late.answers("it holds it all the same", 1, x -> x.holds(0, 0, 1));
        late.then(x -> x.tick(1)).answers("CLOCK above until", 0, x -> x.holds(0, 0, 0));
        Scene asleep = last.then(x -> x.wake(1, 0, false));
        asleep.answers("asleep", 0, x -> x.holds(0, 0, 0));
        asleep.then(x -> x.wake(1, 0, true)).answers("awake again", 1, x -> x.holds(0, 0, 0));
        Scene noKeeper = last.then(x -> x.wake(0, 0, false));
        noKeeper.answers("whatever the KEEPERS do", 1, x -> x.holds(0, 0, 0));
    }
}
