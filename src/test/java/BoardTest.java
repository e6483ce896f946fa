/** Terms 1 and 2, what keepers do; promises 20 to 23: look, grant, ends, told. */
public final class BoardTest {
    private static final int NO = 5, GRANT = 4, LATE = 7, TURN = 6;
    private static final int[] WRONG = {Integer.MIN_VALUE, -1, 20, Integer.MAX_VALUE};

    public static void main(String[] args) {
        only();
        shared();
        counted();
        rising();
        risers();
        riserThatGoes();
        riserThatIsLate();
        waiting();
        fullQueue();
        calledInTurn();
        lookBeforeAll();
        renewals();
        endings();
        looks();
        lookIsFull();
        grantsInOrder();
        tells();
        Check.end();
    }

    private static void answer(String what, LeaseBoard x, int letter, int kind) {
        Check.due(what, x.letter(letter, 0), kind);
    }

    private static LeaseBoard with(int kind, int whole) {
        LeaseBoard x = Boards.plain(1, 12);
        Check.due("thing", x.thing(kind, 10, whole), 0);
        return x;
    }

    private static void only() {
        LeaseBoard x = with(0, 0);
        answer("first", x, Boards.asked(x, 0, 0, 0, 0), GRANT);
        Check.due("NUMBER", x.ends(0, 0, 0), 1);
        Check.due("END", x.ends(0, 0, 1), 12);
        answer("second", x, Boards.asked(x, 1, 0, 0, 0), NO);
        answer("it has one", x, Boards.asked(x, 0, 0, 0, 0), NO);
        Check.due("END as before", x.ends(0, 0, 1), 12);
        x.tick(11);
        answer("not yet", x, Boards.asked(x, 1, 0, 0, 0), NO);
        x.tick(1);
        answer("END at c goes", x, Boards.asked(x, 1, 0, 0, 0), GRANT);
        Check.due("NUMBER grows", x.ends(0, 0, 0), 2);
        Check.due("END", x.ends(0, 0, 1), 24);
        Check.due("of another worker", x.grant(0, 0, 0), 1);
        Check.due("GRANTED twice", x.count(9), 2);
        Check.due("NOs", x.count(10), 3);
        x.thing(0, 10, 0);
        Boards.asked(x, 0, 1, 0, 0);
        Check.due("a NUMBER of each thing's own", x.ends(1, 0, 0), 1);
    }

    private static void shared() {
        LeaseBoard x = with(1, 0);
        answer("reader", x, Boards.asked(x, 0, 0, 1, 0), GRANT);
        answer("second reader", x, Boards.asked(x, 1, 0, 1, 0), GRANT);
        answer("writer", x, Boards.asked(x, 2, 0, 0, 0), NO);
        answer("third reader", x, Boards.asked(x, 2, 0, 1, 0), GRANT);
        Check.due("MODE", x.grant(0, 2, 1), 1);
        x.tick(12);
        answer("writer alone", x, Boards.asked(x, 3, 0, 0, 0), GRANT);
        Check.due("MODE", x.grant(0, 0, 1), 0);
        answer("reader beside", x, Boards.asked(x, 0, 0, 1, 0), NO);
        answer("writer beside", x, Boards.asked(x, 1, 0, 0, 0), NO);
    }

    private static void counted() {
        LeaseBoard x = with(2, 10);
        answer("4", x, Boards.asked(x, 0, 0, 0, 4), GRANT);
        answer("7 more", x, Boards.asked(x, 1, 0, 0, 7), NO);
        answer("5 more", x, Boards.asked(x, 1, 0, 0, 5), GRANT);
        answer("2 more", x, Boards.asked(x, 2, 0, 0, 2), NO);
        answer("1 more of one that has", x, Boards.asked(x, 0, 0, 0, 1), NO);
        answer("1 more", x, Boards.asked(x, 2, 0, 0, 1), GRANT);
        answer("and another", x, Boards.asked(x, 3, 0, 0, 1), NO);
        Check.due("PARTS", x.grant(0, 1, 2), 5);
        Check.due("MODE", x.grant(0, 1, 1), 0);
        x.tick(12);
        answer("the WHOLE", x, Boards.asked(x, 3, 0, 0, 10), GRANT);
    }

    private static void rising() {
        LeaseBoard x = with(3, 0);
        answer("writer", x, Boards.asked(x, 0, 0, 0, 0), GRANT);
        answer("reader beside", x, Boards.asked(x, 1, 0, 1, 0), NO);
        x.tick(12);
        Boards.taken(x, 1, 0, 1, 0);
        answer("second reader", x, Boards.asked(x, 2, 0, 1, 0), GRANT);
        answer("writer beside", x, Boards.asked(x, 3, 0, 0, 0), NO);
        Check.due("no RISER", x.told(0, 5), -1);
        x.tick(3);
        int rise = x.rise(1, 0, 0);
        int like = x.twice(rise);
        Check.due("rises: nothing goes out", Boards.answered(x, rise), -1);
        Check.due("RISER", x.told(0, 5), 1);
        Check.due("END as before", x.ends(0, 0, 1), 24);
        Check.due("again: nothing", Boards.answered(x, like), -1);
        answer("reader, with a RISER", x, Boards.asked(x, 3, 0, 1, 0), NO);
        answer("writer, with a RISER", x, Boards.asked(x, 3, 0, 0, 0), NO);
    }

    private static void risers() {
        LeaseBoard x = with(3, 0);
        for (int w = 0; w < 3; w++) {
            Boards.taken(x, w, 0, 1, 0);
        }
        Check.due("first RISER", Boards.answered(x, x.rise(1, 0, 0)), -1);
        answer("another", x, Boards.answered(x, x.rise(2, 0, 0)), NO);
        Check.due("RISER stays", x.told(0, 5), 1);
        Boards.ended(x, 0, 0);
        Boards.ended(x, 2, 0);
        Check.due("RISER stays", x.told(0, 5), 1);
        Check.due("no GRANT of itself", x.grant(0, 0, 1), 1);
        x.tick(5);
        int rise = x.rise(1, 0, 0);
        int old = x.twice(rise);
        int grant = Boards.answered(x, rise);
        answer("GRANTED anew", x, grant, GRANT);
        Check.due("no RISER then", x.told(0, 5), -1);
        Check.due("WRITE", x.grant(0, 0, 1), 0);
        Check.due("NUMBER", x.ends(0, 0, 0), 4);
        Check.due("END", x.ends(0, 0, 1), 17);
        Check.due("letter's MODE", x.letter(grant, 4), 0);
        Check.due("letter's NUMBER", x.wrote(grant, 0), 4);
        Check.due("GRANTED four times", x.count(9), 4);
        answer("with the NUMBER before", x, Boards.answered(x, old), LATE);
        x.deliver(grant);
        x.tick(2);
        grant = Boards.answered(x, x.rise(1, 0, 0));
        answer("it has WRITE", x, grant, GRANT);
        Check.due("END anew", x.ends(0, 0, 1), 19);
        Check.due("NUMBER as before", x.ends(0, 0, 0), 4);
        Check.due("not GRANTED anew", x.count(9), 4);
        Check.due("no RISER", x.told(0, 5), -1);
    }

    private static void riserThatGoes() {
        LeaseBoard x = with(3, 0);
        for (int w = 0; w < 3; w++) {
            Boards.taken(x, w, 0, 1, 0);
        }
        Boards.answered(x, x.rise(1, 0, 0));
        Boards.ended(x, 1, 0);
        Check.due("its END makes it none", x.told(0, 5), -1);
        answer("reader", x, Boards.asked(x, 4, 0, 1, 0), GRANT);
        Check.due("another rises", Boards.answered(x, x.rise(2, 0, 0)), -1);
        Check.due("RISER", x.told(0, 5), 2);
        int renew = x.renew(0, 0, 0);
        x.tick(11);
        Boards.answered(x, renew);
        x.tick(1);
        Check.due("none looked", x.told(0, 5), 2);
        Check.due("one stays", x.look(0), 1);
        Check.due("late, it is none", x.told(0, 5), -1);
    }

    private static void riserThatIsLate() {
        LeaseBoard x = with(3, 0);
        Boards.taken(x, 0, 0, 1, 0);
        int rise = x.rise(0, 0, 0);
        x.tick(12);
        answer("LATE", x, Boards.answered(x, rise), LATE);
        Check.due("no RISER", x.told(0, 5), -1);
        answer("GRANTED again", x, Boards.asked(x, 0, 0, 1, 0), GRANT);
        answer("an old NUMBER", x, Boards.answered(x, x.twice(rise)), LATE);
        Check.due("LATEs", x.count(11), 2);
    }

    private static void waiting() {
        LeaseBoard x = with(4, 0);
        Boards.taken(x, 0, 0, 0, 0);
        Check.due("queue empty", x.told(0, 6), 0);
        Check.due("comes to its end", Boards.asked(x, 1, 0, 0, 0), -1);
        Check.due("and another", Boards.asked(x, 2, 0, 0, 0), -1);
        Check.due("nothing, if in it", Boards.asked(x, 1, 0, 0, 0), -1);
        answer("it has one", x, Boards.asked(x, 0, 0, 0, 0), NO);
        Check.due("two", x.told(0, 6), 2);
        Check.due("first", x.told(0, 9), 1);
        Check.due("second", x.told(0, 10), 2);
        Check.due("third", x.told(0, 11), -1);
        Check.due("not called", x.told(0, 7), 0);
        x.tick(5);
        int turn = Boards.answered(x, x.end(0, 0, 0));
        answer("a TURN", x, turn, TURN);
        Check.due("to the first", x.letter(turn, 1), 1);
        Check.due("called", x.told(0, 7), 1);
        Check.due("it is in the queue yet", x.told(0, 6), 2);
        Check.due("one that is not first", Boards.asked(x, 2, 0, 0, 0), -1);
        Check.due("one more comes", Boards.asked(x, 3, 0, 0, 0), -1);
        Check.due("even who had it", Boards.asked(x, 0, 0, 0, 0), -1);
        Check.due("four", x.told(0, 6), 4);
        answer("the first", x, Boards.asked(x, 1, 0, 0, 0), GRANT);
        Check.due("goes from it", x.told(0, 6), 3);
        Check.due("next", x.told(0, 9), 2);
        Check.due("next is not called", x.told(0, 7), 0);
        Check.due("last", x.told(0, 11), 0);
        Check.due("one GRANT", x.told(0, 4), 1);
    }

    private static void fullQueue() {
        LeaseBoard x = with(4, 0);
        Boards.taken(x, 0, 0, 0, 0);
        for (int w = 1; w <= 8; w++) {
            Check.due("comes", Boards.asked(x, w, 0, 0, 0), -1);
        }
        answer("with 8 in it", x, Boards.asked(x, 9, 0, 0, 0), NO);
        Check.due("nothing, if in it", Boards.asked(x, 8, 0, 0, 0), -1);
        Check.due("eight", x.told(0, 6), 8);
        Check.due("the last", x.told(0, 16), 8);
        Check.due("none behind", x.told(0, 17), -1);
        Boards.ended(x, 0, 0);
        answer("the first", x, Boards.asked(x, 1, 0, 0, 0), GRANT);
        Check.due("room again", Boards.asked(x, 9, 0, 0, 0), -1);
        Check.due("the last", x.told(0, 16), 9);
        for (int place = 0; place < 8; place++) {
            Check.due("moved up", x.told(0, 9 + place), 2 + place);
        }
    }

    private static void calledInTurn() {
        LeaseBoard x = with(4, 0);
        Boards.taken(x, 0, 0, 0, 0);
        for (int w = 1; w <= 3; w++) {
            Boards.asked(x, w, 0, 0, 0);
        }
        x.tick(12);
        Check.due("none looked", x.told(0, 4), 1);
        int before = x.count(4);
        Check.due("look", x.look(0), 0);
        Check.due("a TURN", x.count(4), before + 1);
        Check.due("called", x.told(0, 7), 1);
        x.look(0);
        Check.due("called once", x.count(4), before + 1);
        x.tick(11);
        x.look(0);
        Check.due("not yet late", x.told(0, 9), 1);
        x.tick(1);
        x.look(0);
        Check.due("it goes", x.told(0, 9), 2);
        Check.due("the next is called", x.told(0, 7), 1);
        Check.due("a TURN to it", x.letter(before + 1, 1), 2);
        x.tick(12);
        Check.due("2 is late: it comes to the end", Boards.asked(x, 2, 0, 0, 0), before + 3);
        Check.due("a TURN to 3 alone", x.letter(before + 3, 1), 3);
        Check.due("3 is first", x.told(0, 9), 3);
        Check.due("2 is next", x.told(0, 10), 2);
        answer("3", x, Boards.asked(x, 3, 0, 0, 0), GRANT);
        x.tick(12);
        before = x.count(4);
        int ask = x.ask(2, 0, 0, 0, 0);
        x.deliver(ask);
        answer("called by that look", x, before + 1, TURN);
        answer("and GRANTED", x, before + 2, GRANT);
        Check.due("no more", x.count(4), before + 3);
        Check.due("not called", x.told(0, 7), 0);
        Check.due("empty", x.told(0, 6), 0);
        x.tick(12);
        Check.due("look", x.look(0), 0);
        Check.due("none to call", x.count(4), before + 3);
        Check.due("none called", x.told(0, 7), 0);
        answer("empty: anyone", x, Boards.asked(x, 5, 0, 0, 0), GRANT);
    }

    private static void lookBeforeAll() {
        LeaseBoard x = Boards.plain(2, 3);
        x.thing(1, 10, 0);
        x.thing(1, 10, 0);
        for (int w = 0; w < 3; w++) {
            Boards.taken(x, w, 0, 1, 0);
            Boards.taken(x, w, 1, 1, 0);
        }
        int end = x.end(1, 0, 0);
        int elsewhere = x.ask(0, 1, 0, 1, 0);
        x.tick(12);
        Check.due("not the leader: not looked at", x.deliver(elsewhere), 0);
        Check.due("all there", x.told(0, 4), 3);
        Check.due("END of one that is late", Boards.answered(x, end), -1);
        Check.due("all gone", x.told(0, 4), 0);
        Check.due("of that thing alone", x.told(1, 4), 3);
    }

    private static void renewals() {
        LeaseBoard x = with(2, 9);
        Boards.taken(x, 0, 0, 0, 3);
        Boards.taken(x, 1, 0, 0, 4);
        x.tick(7);
        int renew = x.renew(1, 0, 0);
        int like = x.twice(renew);
        x.tick(1);
        answer("GRANT", x, Boards.answered(x, renew), GRANT);
        Check.due("END by the keeper's clock", x.ends(0, 1, 1), 20);
        Check.due("the other's", x.ends(0, 0, 1), 12);
        Check.due("NUMBER as before", x.ends(0, 1, 0), 2);
        Check.due("PARTS as before", x.grant(0, 1, 2), 4);
        Check.due("not GRANTED anew", x.count(9), 2);
        x.deliver(x.count(4) - 1);
        Check.due("until, by when it asked", x.held(1, 0, 1), 17);
        Boards.ended(x, 1, 0);
        answer("no GRANT", x, Boards.answered(x, like), LATE);
        Boards.taken(x, 1, 0, 0, 1);
        answer("another NUMBER", x, Boards.answered(x, x.twice(like)), LATE);
        Check.due("END as it was", x.ends(0, 1, 1), 20);
    }

    private static void endings() {
        LeaseBoard x = with(1, 0);
        for (int w = 0; w < 3; w++) {
            Boards.taken(x, w, 0, 1, 0);
        }
        int end = x.end(1, 0, 0);
        int like = x.twice(end);
        Check.due("END", Boards.answered(x, end), -1);
        Check.due("it goes", x.told(0, 4), 2);
        Check.due("0 stays", x.grant(0, 0, 0), 0);
        Check.due("2 stays", x.grant(0, 1, 0), 2);
        Check.due("once more: nothing", Boards.answered(x, like), -1);
        Check.due("two", x.told(0, 4), 2);
        Boards.taken(x, 1, 0, 1, 0);
        Boards.answered(x, x.twice(end));
        Check.due("another NUMBER: it stays", x.told(0, 4), 3);
    }

    private static void looks() {
        LeaseBoard x = Boards.plain(3, 2);
        for (int n : WRONG) {
            Check.due("look " + n, x.look(n), -2);
        }
        Check.due("no such yet", x.look(0), -2);
        x.thing(1, 10, 0);
        Check.due("none", x.look(0), 0);
        Boards.taken(x, 0, 0, 1, 0);
        x.tick(5);
        Boards.taken(x, 1, 0, 1, 0);
        x.tick(6);
        Check.due("both", x.look(0), 2);
        x.tick(1);
        Check.due("one", x.look(0), 1);
        x.wake(0, 1, false);
        Check.due("two of three", x.look(0), 1);
        x.wake(0, 2, false);
        Check.due("one of three", x.look(0), -3);
        Check.due("BAD is ahead of STATE", x.look(1), -2);
        x.wake(0, 1, true);
        x.wake(0, 2, true);
        x.tick(5);
        x.wake(0, 0, false);
        Check.due("no leader", x.look(0), -3);
        Check.due("nothing went", x.told(0, 4), 1);
        x.lead(2);
        Check.due("another leads", x.look(0), 1);
    }

    private static void lookIsFull() {
        LeaseBoard x = with(4, 0);
        Boards.taken(x, 0, 0, 0, 0);
        Boards.asked(x, 1, 0, 0, 0);
        Boards.lettersUpTo(x, 0, 0, 0, 0, 399);
        x.tick(11);
        Check.due("room for one", x.look(0), 1);
        x.twice(0);
        x.tick(1);
        Check.due("no room", x.look(0), -4);
        Check.due("nothing went", x.told(0, 4), 1);
        x.wake(0, 0, false);
        Check.due("STATE is ahead of FULL", x.look(0), -3);
        LeaseBoard y = with(4, 0);
        Boards.taken(y, 0, 0, 0, 0);
        Boards.asked(y, 1, 0, 0, 0);
        Boards.lettersUpTo(y, 0, 0, 0, 0, 399);
        y.tick(12);
        Check.due("room for one", y.look(0), 0);
        Check.due("the last letter", y.letter(399, 0), TURN);
    }

    private static void grantsInOrder() {
        LeaseBoard x = with(3, 0);
        for (int w : new int[] {5, 3, 9}) {
            Boards.taken(x, w, 0, 1, 0);
        }
        Check.due("first", x.grant(0, 0, 0), 5);
        Check.due("second", x.grant(0, 1, 0), 3);
        Check.due("third", x.grant(0, 2, 0), 9);
        Check.due("NUMBER of the second", x.ends(0, 1, 0), 2);
        Check.due("none", x.grant(0, 3, 0), -1);
        for (int n : WRONG) {
            Check.due("grant thing " + n, x.grant(n, 0, 0), -2);
            Check.due("grant i " + n, x.grant(0, n, 0), -1);
            Check.due("grant what " + n, x.grant(0, 0, n), -2);
            Check.due("what is BAD, none such beside", x.grant(0, 3, n), -2);
            Check.due("ends thing " + n, x.ends(n, 0, 0), LeaseBoard.NO);
            Check.due("ends i " + n, x.ends(0, n, 0), LeaseBoard.NO);
            Check.due("ends what " + n, x.ends(0, 0, n), LeaseBoard.NO);
        }
        Check.due("what 3", x.grant(0, 0, 3), -2);
        Check.due("what 2", x.ends(0, 0, 2), LeaseBoard.NO);
        Check.due("i 3", x.ends(0, 3, 0), LeaseBoard.NO);
        Check.due("thing 1", x.grant(1, 0, 0), -2);
        Boards.ended(x, 3, 0);
        Check.due("second now", x.grant(0, 1, 0), 9);
        Boards.taken(x, 3, 0, 1, 0);
        Check.due("it comes last", x.grant(0, 2, 0), 3);
        Boards.answered(x, x.renew(5, 0, 0));
        Check.due("RENEW keeps the place", x.grant(0, 0, 0), 5);
    }

    private static void tells() {
        LeaseBoard x = new LeaseBoard(100);
        x.keeper(0, 1000);
        for (int w = 0; w < 3; w++) {
            x.worker(0, 1000);
        }
        x.lead(0);
        x.thing(0, 9, 0);
        x.thing(1, 18, 0);
        x.thing(2, 27, 33);
        int[][] due = {{0, 9, 13, 0, 0, -1, 0, 0, 0, -1}, {1, 18, 24, 0, 0, -1, 0, 0, 0, -1},
            {2, 27, 35, 33, 0, -1, 0, 0, 0, -1}};
        for (int thing = 0; thing < due.length; thing++) {
            for (int what = 0; what < due[thing].length; what++) {
                Check.due("told(" + thing + ", " + what + ")", x.told(thing, what), due[thing][what]);
            }
            Check.due("far behind", x.told(thing, Integer.MAX_VALUE), -1);
            Check.due("what -1", x.told(thing, -1), -2);
            Check.due("what least", x.told(thing, Integer.MIN_VALUE), -2);
        }
        for (int n : WRONG) {
            Check.due("thing " + n, x.told(n, 0), -2);
        }
        Check.due("thing 3", x.told(3, 9), -2);
        Boards.taken(x, 0, 1, 1, 0);
        Boards.taken(x, 1, 1, 1, 0);
        Boards.asked(x, 2, 1, 1, 0);
        Check.due("three GRANTS", x.told(1, 4), 3);
        Check.due("two MAY", x.told(1, 8), 2);
        x.wake(1, 0, false);
        Check.due("one MAY", x.told(1, 8), 1);
        x.wake(1, 0, true);
        x.tick(17);
        Check.due("two MAY", x.told(1, 8), 2);
        x.tick(1);
        Check.due("none MAY", x.told(1, 8), 0);
    }
}
