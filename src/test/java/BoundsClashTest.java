import java.lang.reflect.Field;

/**
 * What count(14) tells of THINGS that two MAY use though no two may. No run of calls leads there, as a GRANT always
 * lasts longer than the hold that comes of it; so TIME is set back from outside, to when the one before MAY use it still.
 */
public final class BoundsClashTest {
    private static final int WRITE = 0, READ = 1;
    private static final int NEXT = 12, LAST = 9, UNTIL = 10;

    public static void main(String[] args) {
        Document.says(28, "14 THINGS of which, now, two MAY use what no two may (WRITE beside another one; of COUNTED ones more PARTS "
            + "than the WHOLE).");
        writeBesideAnother();
        partsAboveTheWhole();
        onlyWhoMay();
        allThings();
        twoOfMany();
        Check.end();
    }

    private static void setTime(LeaseBoard x, int time) {
        try {
            Field field = LeaseBoard.class.getDeclaredField("time");
            field.setAccessible(true);
            field.setInt(x, time);
        } catch (ReflectiveOperationException e) {
            Check.due("TIME can be set back: " + e, false);
        }
    }

    /** A claim of thing 0, whose LENGTH is 10, each by another worker: a MODE and PARTS. */
    private static LeaseBoard held(int kind, int whole, int[]... claims) {
        LeaseBoard x = Boards.plain(1, claims.length);
        x.thing(kind, UNTIL, whole);
        for (int w = 0; w < claims.length; w++) {
            setTime(x, w * NEXT);
            Boards.taken(x, w, 0, claims[w][0], claims[w][1]);
        }
        return x;
    }

    /** As held, and set back to the last TIME at which the first MAY use it; the clashes there are then. */
    private static int clashes(int kind, int whole, int[]... claims) {
        LeaseBoard x = held(kind, whole, claims);
        setTime(x, LAST);
        Check.due("all may use it, KIND " + kind, x.told(0, 8), claims.length);
        return x.count(14);
    }

    private static int clash(int kind, int first, int second) {
        return clashes(kind, 0, new int[] {first, 0}, new int[] {second, 0});
    }

    private static void writeBesideAnother() {
        for (int kind : new int[] {0, 1, 3, 4}) {
            Check.due("WRITE beside WRITE, KIND " + kind, clash(kind, WRITE, WRITE), 1);
            Check.due("WRITE alone, KIND " + kind, clashes(kind, 0, new int[] {WRITE, 0}), 0);
        }
        for (int kind : new int[] {1, 3}) {
            Check.due("WRITE, then READ, KIND " + kind, clash(kind, WRITE, READ), 1);
            Check.due("READ, then WRITE, KIND " + kind, clash(kind, READ, WRITE), 1);
            Check.due("READ beside READ, KIND " + kind, clash(kind, READ, READ), 0);
            Check.due("READ alone, KIND " + kind, clashes(kind, 0, new int[] {READ, 0}), 0);
            int[] read = {READ, 0};
            Check.due("READ by four, KIND " + kind, clashes(kind, 0, read, read, read, read), 0);
            Check.due("one WRITE among four, KIND " + kind, clashes(kind, 0, read, read, new int[] {WRITE, 0}, read), 1);
        }
    }

    private static void partsAboveTheWhole() {
        for (int whole : new int[] {2, 5, 99, 100}) {
            int[] one = {WRITE, 1};
            int[] all = {WRITE, whole};
            int[] allButOne = {WRITE, whole - 1};
            Check.due("the WHOLE " + whole, clashes(2, whole, all), 0);
            Check.due("just the WHOLE, of two", clashes(2, whole, allButOne, one), 0);
            Check.due("just the WHOLE, the other way", clashes(2, whole, one, allButOne), 0);
            Check.due("one above the WHOLE", clashes(2, whole, all, one), 1);
            Check.due("one above the WHOLE, the other way", clashes(2, whole, one, all), 1);
            Check.due("twice the WHOLE", clashes(2, whole, all, all), 1);
            Check.due("one above the WHOLE, of three", clashes(2, whole, one, allButOne, one), 1);
        }
        int[] two = {WRITE, 2};
        Check.due("just the WHOLE, of three", clashes(2, 6, two, two, two), 0);
        Check.due("one above the WHOLE, of three", clashes(2, 5, two, two, two), 1);
        Check.due("WRITE beside WRITE is none where there are PARTS enough", clashes(2, 100, two, two, two, two), 0);
    }

    private static LeaseBoard twoWriters() {
        LeaseBoard x = held(0, 0, new int[] {WRITE, 0}, new int[] {WRITE, 0});
        Check.due("none before TIME is set back", x.count(14), 0);
        setTime(x, LAST);
        Check.due("a clash", x.count(14), 1);
        return x;
    }

    private static void onlyWhoMay() {
        LeaseBoard x = twoWriters();
        x.tick(1);
        Check.due("the first's CLOCK is at until", x.count(14), 0);
        for (int worker = 0; worker < 2; worker++) {
            x = twoWriters();
            x.wake(1, worker, false);
            Check.due("one sleeps", x.count(14), 0);
            x.wake(1, worker, true);
            Check.due("it is awake again", x.count(14), 1);
            x.end(worker, 0, 0);
            Check.due("it ended it", x.count(14), 0);
            x = twoWriters();
            x.fall(worker);
            Check.due("it fell", x.count(14), 0);
        }
        x = twoWriters();
        x.wake(0, 0, false);
        Check.due("whatever the KEEPERS do", x.count(14), 1);
    }

    /** All 20 THINGS clash, then one less with each that is ended. */
    private static void allThings() {
        LeaseBoard x = Boards.plain(1, 2);
        for (int t = 0; t < 20; t++) {
            x.thing(t % 2 == 0 ? 0 : 2, UNTIL, t % 2 == 0 ? 0 : 5);
        }
        for (int w = 0; w < 2; w++) {
            setTime(x, w * NEXT);
            for (int t = 0; t < 20; t++) {
                Boards.taken(x, w, t, WRITE, t % 2 == 0 ? 0 : 3);
            }
        }
        setTime(x, LAST);
        Check.due("all", x.count(14), 20);
        for (int t = 0; t < 20; t++) {
            x.end(t % 3 % 2, 0, t);
            Check.due("without those up to " + t, x.count(14), 19 - t);
        }
    }

    /** Any two of all 20 workers. */
    private static void twoOfMany() {
        int[][] pairs = {{0, 19}, {19, 0}, {18, 19}, {0, 1}, {7, 12}};
        for (int[] p : pairs) {
            LeaseBoard x = Boards.plain(1, 20);
            x.thing(4, UNTIL, 0);
            Boards.taken(x, p[0], 0, WRITE, 0);
            setTime(x, NEXT);
            Boards.taken(x, p[1], 0, WRITE, 0);
            setTime(x, LAST);
            Check.due("workers " + p[0] + " and " + p[1], x.count(14), 1);
        }
    }
}
