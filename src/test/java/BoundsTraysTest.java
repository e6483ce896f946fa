/** The bounds of promises 29 to 31 and of TRAYS (part 4 of the Terms), each by its sentence. */
public final class BoundsTraysTest {
    private static final int LEAST = Integer.MIN_VALUE, MOST = Integer.MAX_VALUE;
    private static final int NOTHING = 10, SORT = 11, PLACE = 12, SIZE = 13, FIT = 14, ZERO = 15;

    public static void main(String[] args) {
        traysAtFirst();
        traysHold();
        puts();
        putIsRefused();
        forgeIsRefused();
        takenForAThing();
        takenForALetter();
        takenForNumbers();
        takenForTruths();
        rowsAreMade();
        numbersAreCopied();
        copiesOfNothing();
        laidIntoARow();
        divided();
        thrown();
        statusIsTheLatest();
        Check.end();
    }

    /** The call is done: its answer, and STATUS 0. */
    private static void done(Scene s, int tray, int what, int n, int answer) {
        forged(s, tray, what, n, answer, 0);
    }

    /** The call is refused: -1, its STATUS, and all but that as it was. */
    private static void refused(Scene s, int tray, int what, int n, int status) {
        forged(s, tray, what, n, -1, status);
    }

    private static void forged(Scene s, int tray, int what, int n, int answer, int status) {
        String call = "forge(" + tray + ", " + what + ", " + n + ")";
        s.answers(call, answer, x -> x.forge(tray, what, n));
        s.then(x -> x.forge(tray, what, n)).answers("STATUS of " + call, status, x -> x.status());
    }

    /** TRAY 0 a THING, 1 a LETTER to a KEEPER, 2 NUMBERS, 3 truths, 4 a LETTER to a WORKER, 5 nothing. */
    private static Scene trays() {
        return Boards.busy().then(x -> x.put(4, 2, 1));
    }

    /** So many readers of thing 0, whose NUMBERS are in TRAY 0. */
    private static Scene numbers(int readers) {
        return new Scene(0, x -> {
            x.keeper(0, 1000);
            x.thing(1, 10, 0);
            x.lead(0);
            for (int w = 0; w < readers; w++) {
                x.worker(0, 1000);
                x.deliver(x.ask(w, 0, 0, 1, 0));
            }
            x.put(0, 3, 0);
        });
    }

    private static void traysAtFirst() {
        Document.terms("TRAYS 0 .. 5 hold a thing: nothing (at first),");
        Scene empty = new Scene(0, x -> { });
        for (int tray = 0; tray < 6; tray++) {
            refused(empty, tray, 0, 0, NOTHING);
            refused(empty, tray, 1, 0, NOTHING);
            refused(empty, tray, 1, 1, NOTHING);
            refused(empty, tray, 2, 0, NOTHING);
            refused(empty, tray, 3, 0, NOTHING);
            refused(empty, tray, 5, 0, NOTHING);
            done(empty, tray, 6, 0, 0);
        }
        for (int tray : new int[] {-1, 6, LEAST, MOST}) {
            refused(empty, tray, 6, 0, 1);
        }
    }

    /** NUMBERS and truths are those of the time at which they were put there. */
    private static void traysHold() {
        Document.terms("a THING, a LETTER, the NUMBERS of a THING's GRANTS in their order (longs), for each WORKER whether it MAY use a "
            + "THING (truths).");
        Document.terms("The host refuses: STATUS 10 nothing where something is asked, 11 a thing of another sort, 12 a place outside, 13 "
            + "a size below 0, 14 a thing that does not fit, 15 divided by 0; a call answers -1 then.");
        Scene s = trays();
        done(s, 0, 0, 2, 30);
        done(s, 1, 1, 0, 0);
        done(s, 4, 1, 1, 0);
        for (int i = 0; i < 2; i++) {
            done(s, 2, 2, i, i + 1);
        }
        refused(s, 2, 2, 2, PLACE);
        int[] may = {1, 1, 0, 0};
        for (int w = 0; w < 4; w++) {
            done(s, 3, 3, w, may[w]);
        }
        refused(s, 3, 3, 4, PLACE);
        Scene later = s.then(x -> {
            x.deliver(x.end(0, 0, 1));
            x.worker(0, 1000);
            x.tick(500);
        });
        done(later, 2, 2, 0, 1);
        done(later, 2, 2, 1, 2);
        done(later, 3, 3, 0, 1);
        refused(later, 3, 3, 4, PLACE);
        Scene anew = later.then(x -> {
            x.put(2, 3, 1);
            x.put(3, 4, 1);
        });
        done(anew, 2, 2, 0, 2);
        refused(anew, 2, 2, 1, PLACE);
        done(anew, 3, 3, 0, 0);
        done(anew, 3, 3, 4, 0);
        Scene without = new Scene(0, x -> {
            x.thing(0, 1, 0);
            x.put(0, 4, 0);
            x.put(1, 3, 0);
        });
        refused(without, 0, 3, 0, PLACE);
        refused(without, 1, 2, 0, PLACE);
    }

    private static void puts() {
        Document.says(29, "A TRAY holds: what 0 nothing, 1 THING n, 2 LETTER n, 3 NUMBERS of THING n, 4 truths for THING n. Answers 1.");
        Scene busy = Boards.busy();
        int[] last = {0, 4, 22, 4, 4};
        for (int tray = 0; tray < 6; tray++) {
            int t = tray;
            for (int what = 0; what <= 4; what++) {
                int w = what;
                busy.answers("put(" + t + ", " + w + ", 0)", 1, x -> x.put(t, w, 0));
                busy.answers("put(" + t + ", " + w + ", the last)", 1, x -> x.put(t, w, last[w]));
                busy.then(x -> x.put(t, w, last[w])).answers("STATUS", 0, x -> x.status());
            }
            refused(busy.then(x -> x.put(t, 0, 0)), t, 0, 0, NOTHING);
            done(busy.then(x -> x.put(t, 1, 4)), t, 0, 4, 6);
            done(busy.then(x -> x.put(t, 2, 22)), t, 1, 0, 0);
            done(busy.then(x -> x.put(t, 3, 3)), t, 2, 1, 2);
            done(busy.then(x -> x.put(t, 4, 0)), t, 3, 1, 0);
        }
        for (int n : new int[] {-1, 5, LEAST, MOST}) {
            busy.answers("nothing has no number", 1, x -> x.put(0, 0, n));
        }
        Scene other = trays().then(x -> x.put(0, 0, 0));
        done(other, 4, 1, 1, 0);
    }

    private static void putIsRefused() {
        Document.says(29, "STATUS 1.");
        Scene s = trays();
        for (int n : new int[] {-1, LEAST, MOST}) {
            for (int what = 1; what <= 4; what++) {
                putRefused(s, 0, what, n);
            }
            putRefused(s, n, 0, 0);
            putRefused(s, 0, n, 0);
        }
        putRefused(s, 6, 1, 0);
        putRefused(s, 0, 5, 0);
        putRefused(s, 0, 1, 5);
        putRefused(s, 0, 2, 23);
        putRefused(s, 0, 3, 5);
        putRefused(s, 0, 4, 5);
        Scene empty = new Scene(0, x -> { });
        for (int what = 1; what <= 4; what++) {
            putRefused(empty, 0, what, 0);
        }
    }

    /** It answers -1, STATUS is 1, and the TRAYS and all else stay. */
    private static void putRefused(Scene s, int tray, int what, int n) {
        String call = "put(" + tray + ", " + what + ", " + n + ")";
        s.answers(call, -1, x -> x.put(tray, what, n));
        Scene after = s.then(x -> x.put(tray, what, n));
        after.answers("STATUS of " + call, 1, x -> x.status());
        Picture.alike(call, s.then(x -> x.forge(-1, 0, 0)), after);
    }

    private static void forgeIsRefused() {
        Document.says(30, "What the host does with a TRAY's thing, by what (STATUS 1: another; no such TRAY; n outside -100 .. 100):");
        Scene s = trays();
        for (int what : new int[] {-1, 9, LEAST, MOST}) {
            refused(s, 0, what, 1, 1);
        }
        for (int tray : new int[] {-1, 6, LEAST, MOST}) {
            for (int what = 0; what <= 9; what++) {
                refused(s, tray, what, 1, 1);
            }
        }
        for (int n : new int[] {-101, 101, LEAST, MOST}) {
            for (int what = 0; what <= 9; what++) {
                refused(s, 0, what, n, 1);
                refused(s, 5, what, n, 1);
            }
        }
        done(s, 0, 7, 100, 10);
        done(s, 0, 7, -100, -10);
        done(s, 0, 4, 100, 100);
        refused(s, 0, 4, -100, SIZE);
        Picture.alike("a forge that is done", s.then(x -> x.forge(0, 7, 1)), s.then(x -> x.forge(0, 0, 2)));
        Picture.alike("a forge that is refused", s.then(x -> x.forge(0, 0, 4)), s.then(x -> x.forge(1, 0, 0)));
    }

    private static void takenForAThing() {
        Document.says(30, "0 it is taken for a THING of KIND n modulo 5 (0 .. 4, also for n below 0) or one under that (under the one above "
            + "it, too): 11 if it is something else; then its LENGTH is asked: 10 if it is nothing; answers it.");
        String[] under = {"0", "01", "012", "03", "04"};
        for (int kind = 0; kind < 5; kind++) {
            int k = kind;
            Scene s = Boards.busy().then(x -> x.put(5, 1, k));
            for (int n = -100; n <= 100; n += Math.abs(n) < 12 ? 1 : 4) {
                int taken = ((n % 5) + 5) % 5;
                if (under[k].indexOf('0' + taken) >= 0) {
                    done(s, 5, 0, n, k == 4 ? 6 : 10 * (k + 1));
                } else {
                    refused(s, 5, 0, n, SORT);
                }
            }
        }
        for (int n = -5; n <= 5; n++) {
            for (int tray = 1; tray <= 4; tray++) {
                refused(trays(), tray, 0, n, SORT);
            }
            refused(trays(), 5, 0, n, NOTHING);
        }
    }

    private static void takenForALetter() {
        Document.says(30, "1 for a LETTER to a KEEPER (n even; n odd: to a WORKER) (11), its THING: 10.");
        Scene s = trays();
        int[] even = {0, 2, -2, 100, -100};
        int[] odd = {1, -1, 3, 99, -99};
        for (int i = 0; i < even.length; i++) {
            done(s, 1, 1, even[i], 0);
            refused(s, 1, 1, odd[i], SORT);
            done(s, 4, 1, odd[i], 0);
            refused(s, 4, 1, even[i], SORT);
            for (int tray : new int[] {0, 2, 3}) {
                refused(s, tray, 1, even[i], SORT);
                refused(s, tray, 1, odd[i], SORT);
            }
            refused(s, 5, 1, even[i], NOTHING);
            refused(s, 5, 1, odd[i], NOTHING);
        }
        LeaseBoard x = Boards.busy().board();
        for (int l = 0; l < x.count(4); l++) {
            int letter = l;
            Scene put = Boards.busy().then(y -> y.put(0, 2, letter));
            boolean toKeeper = x.letter(l, 0) <= 3;
            done(put, 0, 1, toKeeper ? 0 : 1, x.letter(l, 3));
            refused(put, 0, 1, toKeeper ? 1 : 0, SORT);
        }
    }

    private static void takenForNumbers() {
        Document.says(30, "2 for NUMBERS (11), the n-th, as an int (its lowest bits): 10, 12.");
        for (int many : new int[] {0, 1, 2, 20}) {
            Scene s = numbers(many);
            for (int i = 0; i < many; i++) {
                done(s, 0, 2, i, i + 1);
            }
            for (int n : new int[] {-1, -100, many, many + 1, 100}) {
                refused(s, 0, 2, n, PLACE);
            }
        }
        for (int n : new int[] {-100, -1, 0, 1, 100}) {
            for (int tray : new int[] {0, 1, 3, 4}) {
                refused(trays(), tray, 2, n, SORT);
            }
            refused(trays(), 5, 2, n, NOTHING);
        }
    }

    private static void takenForTruths() {
        Document.says(30, "3 for truths (11), that of WORKER n (1, 0): 10, 12.");
        Scene s = trays();
        done(s, 3, 3, 1, 1);
        done(s, 3, 3, 3, 0);
        for (int n : new int[] {-1, -100, 4, 5, 100}) {
            refused(s, 3, 3, n, PLACE);
        }
        Scene all = numbers(20).then(x -> {
            for (int w = 0; w < 20; w++) {
                x.deliver(2 * w + 1);
            }
            x.put(1, 4, 0);
        });
        for (int w = 0; w < 20; w++) {
            done(all, 1, 3, w, 1);
        }
        refused(all, 1, 3, 20, PLACE);
        for (int n : new int[] {-100, -1, 0, 1, 100}) {
            for (int tray : new int[] {0, 1, 2, 4}) {
                refused(s, tray, 3, n, SORT);
            }
            refused(s, 5, 3, n, NOTHING);
        }
    }

    private static void rowsAreMade() {
        Document.says(30, "4 a row of n longs is made: 13; answers n.");
        for (int tray = 0; tray < 6; tray++) {
            for (int n : new int[] {0, 1, 5, 99, 100}) {
                done(trays(), tray, 4, n, n);
            }
            for (int n : new int[] {-1, -5, -100}) {
                refused(trays(), tray, 4, n, SIZE);
            }
        }
    }

    /** Of a row of k NUMBERS, which are 1 to k, places 1 to n are copied; the row of 5 has places n to 2n - 1 for them. */
    private static void numbersAreCopied() {
        Document.says(30, "5 n NUMBERS of it, from its second one on, taken for NUMBERS (11), are copied to a new row of 5 from place n on: "
            + "10, 12 (n below 0, or they do not stand there in both); answers the sum of the row, as an int.");
        int[] sums = {0, 2, 2 + 3};
        for (int many = 1; many <= 8; many++) {
            Scene s = numbers(many);
            for (int n = 0; n <= 6; n++) {
                if (n <= 2 && n + 1 <= many) {
                    done(s, 0, 5, n, sums[n]);
                } else {
                    refused(s, 0, 5, n, PLACE);
                }
            }
            for (int n : new int[] {-1, -2, -100, 100}) {
                refused(s, 0, 5, n, PLACE);
            }
        }
        for (int n : new int[] {-100, -1, 0, 1, 100}) {
            for (int tray : new int[] {0, 1, 3, 4}) {
                refused(trays(), tray, 5, n, SORT);
            }
            refused(trays(), 5, 5, n, NOTHING);
        }
    }

    /** A row without a second place: from there not even 0 NUMBERS can be copied, as in Java's own copy. */
    private static void copiesOfNothing() {
        Scene s = numbers(0);
        for (int n : new int[] {0, 1, 2, -1}) {
            refused(s, 0, 5, n, PLACE);
        }
        done(numbers(1), 0, 5, 0, 0);
    }

    private static void laidIntoARow() {
        Document.says(30, "6 it is laid into a row that takes SHARED and COUNTED ones (14: it is another thing): answers its LENGTH (0: "
            + "nothing).");
        for (int n : new int[] {-100, 0, 100}) {
            for (int kind = 0; kind < 5; kind++) {
                int k = kind;
                Scene s = Boards.busy().then(x -> x.put(5, 1, k));
                if (k == 1 || k == 2) {
                    done(s, 5, 6, n, 10 * (k + 1));
                } else {
                    refused(s, 5, 6, n, FIT);
                }
            }
            for (int tray = 1; tray <= 4; tray++) {
                refused(trays(), tray, 6, n, FIT);
            }
            done(trays(), 5, 6, n, 0);
        }
    }

    private static void divided() {
        Document.says(30, "7 1000 is divided by n: 15; answers it.");
        int[][] due = {{1, 1000}, {-1, -1000}, {3, 333}, {-3, -333}, {7, 142}, {-7, -142}, {99, 10}, {100, 10}, {-100, -10}};
        for (int tray = 0; tray < 6; tray++) {
            for (int[] d : due) {
                done(trays(), tray, 7, d[0], d[1]);
            }
            refused(trays(), tray, 7, 0, ZERO);
        }
    }

    private static void thrown() {
        Document.says(30, "8 a failure is thrown that is none: 10.");
        for (int tray = 0; tray < 6; tray++) {
            for (int n : new int[] {-100, -1, 0, 1, 100}) {
                refused(trays(), tray, 8, n, NOTHING);
            }
        }
    }

    private static void statusIsTheLatest() {
        Document.says(31, "STATUS.");
        Document.terms("STATUS is of the latest put(), forge(): 0 done, 1 a number is none such (-1, too).");
        LeaseBoard x = Boards.letters(7).board();
        Check.due("before any", x.status(), 0);
        int[][] calls = {{7, 0, 15}, {7, 1, 0}, {4, -1, 13}, {4, 0, 0}, {9, 0, 1}, {8, 0, 10}, {7, 101, 1}, {6, 0, 0}};
        for (int[] c : calls) {
            x.forge(0, c[0], c[1]);
            Check.due("of forge(0, " + c[0] + ", " + c[1] + ")", x.status(), c[2]);
            Check.due("and again", x.status(), c[2]);
        }
        x.forge(0, 7, 0);
        Check.due("put", x.put(0, 3, 0), 1);
        Check.due("of put, done", x.status(), 0);
        Check.due("put", x.put(0, 3, 9), -1);
        Check.due("of put, refused", x.status(), 1);
        x.forge(0, 2, 5);
        Check.due("a place outside", x.status(), 12);
        Check.due("other calls, refused", x.look(9) + x.deliver(-1) + x.tick(-1) + x.count(99), -8);
        Check.due("other calls, done", x.look(0) + x.tick(0) + x.lose(6), 2);
        Check.due("leave it", x.status(), 12);
    }
}
