import java.util.ArrayList;
import java.util.List;
import java.util.function.Predicate;
import java.util.function.ToLongFunction;

/** All that can be asked of a board, and what comes next on it, to hold one state against another. */
final class Picture {
    private static final int AT_ONCE = 60;

    private record Question(String text, ToLongFunction<LeaseBoard> put) {
    }

    private final List<Question> questions = new ArrayList<>();

    private Picture() {
    }

    static void alike(String what, Scene before, Scene after) {
        alikeBut(what, q -> false, before, after);
    }

    /** As alike, but how the letter is (under way, delivered, lost) may differ. */
    static void alikeButHowIs(int letter, String what, Scene before, Scene after) {
        alikeBut(what, q -> q.equals("letter(" + letter + ", 6)"), before, after);
    }

    private static void alikeBut(String what, Predicate<String> aside, Scene before, Scene after) {
        Picture p = new Picture();
        p.ofAll(before.board());
        p.ofTrays();
        p.questions.removeIf(q -> aside.test(q.text));
        int differ = 0;
        for (int from = 0; from < p.questions.size(); from += AT_ONCE) {
            LeaseBoard x = before.board();
            LeaseBoard y = after.board();
            for (Question q : p.questions.subList(from, Math.min(from + AT_ONCE, p.questions.size()))) {
                differ += differ(what + ", then " + q.text, q.put.applyAsLong(y), q.put.applyAsLong(x));
            }
        }
        List<Long> looksDue = asTimeGoesOn(before.board());
        List<Long> looks = asTimeGoesOn(after.board());
        List<Long> actsDue = whatComesNext(before.board());
        List<Long> acts = whatComesNext(after.board());
        Check.due(what + " leaves all that can be asked as it was", differ, 0);
        Check.due(what + " leaves what a look finds later", looks.equals(looksDue));
        Check.due(what + " leaves what comes of the next acts", acts.equals(actsDue));
    }

    private static int differ(String what, long got, long want) {
        if (got != want) {
            Check.due(what, got, want);
        }
        return got == want ? 0 : 1;
    }

    private void add(String text, ToLongFunction<LeaseBoard> put) {
        questions.add(new Question(text, put));
    }

    private void ofAll(LeaseBoard x) {
        add("status()", y -> y.status());
        add("tick(0)", y -> y.tick(0));
        for (int what = 0; what <= 14; what++) {
            int w = what;
            add("count(" + w + ")", y -> y.count(w));
        }
        for (int who = 0; who < 20; who++) {
            int n = who;
            add("clock(0, " + n + ")", y -> y.clock(0, n));
            add("clock(1, " + n + ")", y -> y.clock(1, n));
        }
        for (int t = 0; t < x.count(2); t++) {
            ofThing(t, x.told(t, 4));
            for (int w = 0; w < x.count(1); w++) {
                ofHolding(w, t);
            }
            for (int s = 0; s < x.count(3); s++) {
                int store = s;
                int thing = t;
                add("stored(" + s + ", " + t + ", 0)", y -> y.stored(store, thing, 0));
                add("stored(" + s + ", " + t + ", 1)", y -> y.stored(store, thing, 1));
            }
        }
        for (int l = 0; l < x.count(4); l++) {
            ofLetter(l);
        }
    }

    private void ofThing(int t, int grants) {
        for (int what = 0; what <= 17; what++) {
            int w = what;
            add("told(" + t + ", " + w + ")", y -> y.told(t, w));
        }
        for (int at = 0; at <= grants; at++) {
            int i = at;
            for (int what = 0; what <= 2; what++) {
                int w = what;
                add("grant(" + t + ", " + i + ", " + w + ")", y -> y.grant(t, i, w));
                add("ends(" + t + ", " + i + ", " + w + ")", y -> y.ends(t, i, w));
            }
        }
    }

    private void ofHolding(int w, int t) {
        for (int what = 0; what <= 4; what++) {
            int n = what;
            add("holds(" + w + ", " + t + ", " + n + ")", y -> y.holds(w, t, n));
        }
        add("held(" + w + ", " + t + ", 0)", y -> y.held(w, t, 0));
        add("held(" + w + ", " + t + ", 1)", y -> y.held(w, t, 1));
    }

    private void ofLetter(int l) {
        for (int what = 0; what <= 6; what++) {
            int w = what;
            add("letter(" + l + ", " + w + ")", y -> y.letter(l, w));
        }
        for (int what = 0; what <= 2; what++) {
            int w = what;
            add("wrote(" + l + ", " + w + ")", y -> y.wrote(l, w));
        }
    }

    /** What the TRAYS hold; asked last, as forge has a STATUS of its own. */
    private void ofTrays() {
        for (int tray = 0; tray < 6; tray++) {
            int t = tray;
            for (int what = 0; what <= 3; what++) {
                int w = what;
                for (int n = 0; n < 5; n++) {
                    int m = n;
                    add("forge(" + t + ", " + w + ", " + m + ")", y -> y.forge(t, w, m));
                }
            }
            add("forge(" + t + ", 6, 0)", y -> y.forge(t, 6, 0));
        }
    }

    /** The END of one that is CALLED can't be asked for, but a look finds it. */
    private static List<Long> asTimeGoesOn(LeaseBoard x) {
        List<Long> said = new ArrayList<>();
        List<Integer> waiting = new ArrayList<>();
        for (int t = 0; t < x.count(2); t++) {
            if (x.told(t, 0) == 4) {
                waiting.add(t);
            }
        }
        for (int i = 0; i < 14; i++) {
            said.add((long) x.tick(1));
            for (int t : waiting) {
                said.add((long) x.look(t));
                said.add((long) x.told(t, 9));
            }
        }
        return said;
    }

    /** Who is AWAKE, the MARKS and the last NUMBERS show in the next acts alone. */
    private static List<Long> whatComesNext(LeaseBoard x) {
        List<Long> said = new ArrayList<>();
        int workers = Math.min(x.count(1), 4);
        int things = Math.min(x.count(2), 5);
        for (int k = 0; k < x.count(0); k++) {
            said.add((long) x.wake(0, k, true));
        }
        for (int w = 0; w < workers; w++) {
            said.add((long) x.wake(1, w, true));
        }
        said.add((long) x.lead(0));
        said.add((long) x.tick(2000));
        for (int t = 0; t < things; t++) {
            for (int w = 0; w < workers && w < 2; w++) {
                int ask = x.ask(w, 0, t, 0, x.told(t, 3) > 0 ? 1 : 0);
                said.add((long) ask);
                said.add(x.wrote(ask, 2));
                said.add((long) x.deliver(ask));
            }
            said.add(x.ends(t, 0, 0));
        }
        said.add((long) x.count(4));
        return said;
    }
}
