/** Promises 29 to 31: put, forge, status. */
public final class TraysTest {
    private static final int[] WRONG = {Integer.MIN_VALUE, -1, Integer.MAX_VALUE};

    public static void main(String[] args) {
        puts();
        putIsRefused();
        forgeIsRefused();
        kinds();
        letters();
        numbers();
        truths();
        sizes();
        copies();
        laid();
        divided();
        failures();
        Check.end();
    }

    private static void put(LeaseBoard x, int tray, int what, int n) {
        Check.due("put(" + tray + ", " + what + ", " + n + ")", x.put(tray, what, n), 1);
        Check.due("status of put", x.status(), 0);
    }

    private static void forged(LeaseBoard x, int tray, int what, int n, int answer) {
        Check.due("forge(" + tray + ", " + what + ", " + n + ")", x.forge(tray, what, n), answer);
        Check.due("status of forge(" + tray + ", " + what + ", " + n + ")", x.status(), 0);
    }

    private static void refused(LeaseBoard x, int tray, int what, int n, int status) {
        Check.due("forge(" + tray + ", " + what + ", " + n + ")", x.forge(tray, what, n), -1);
        Check.due("status of forge(" + tray + ", " + what + ", " + n + ")", x.status(), status);
    }

    private static void putRefused(LeaseBoard x, int tray, int what, int n) {
        Check.due("put(" + tray + ", " + what + ", " + n + ")", x.put(tray, what, n), -1);
        Check.due("status of put(" + tray + ", " + what + ", " + n + ")", x.status(), 1);
    }

    /** Things of LENGTH 10 more than their KIND times 10, each of which worker 0 holds, with NUMBER 1. */
    private static LeaseBoard full() {
        LeaseBoard x = Boards.plain(1, 2);
        for (int kind = 0; kind < 5; kind++) {
            x.thing(kind, 10 + 10 * kind, kind == 2 ? 5 : 0);
            Boards.taken(x, 0, kind, 0, kind == 2 ? 1 : 0);
        }
        return x;
    }

    private static void puts() {
        LeaseBoard x = full();
        for (int tray = 0; tray < 6; tray++) {
            refused(x, tray, 0, 0, 10);
            put(x, tray, 1, tray % 5);
            forged(x, tray, 0, 0, 10 + 10 * (tray % 5));
        }
        put(x, 5, 2, 0);
        forged(x, 5, 1, 0, 0);
        refused(x, 5, 0, 0, 11);
        put(x, 5, 3, 0);
        refused(x, 5, 1, 0, 11);
        put(x, 5, 4, 0);
        refused(x, 5, 2, 0, 11);
        put(x, 5, 0, Integer.MIN_VALUE);
        refused(x, 5, 3, 0, 10);
        forged(x, 4, 0, 4, 50);
    }

    private static void putIsRefused() {
        LeaseBoard x = full();
        put(x, 0, 1, 0);
        for (int n : WRONG) {
            putRefused(x, n, 0, 0);
            putRefused(x, 0, n, 0);
            putRefused(x, 0, 1, n);
            putRefused(x, 0, 2, n);
            putRefused(x, 0, 3, n);
            putRefused(x, 0, 4, n);
        }
        putRefused(x, 6, 0, 0);
        putRefused(x, 0, 5, 0);
        putRefused(x, 0, 1, 5);
        putRefused(x, 0, 2, 10);
        putRefused(x, 0, 3, 5);
        putRefused(x, 0, 4, 5);
        forged(x, 0, 0, 0, 10);
        put(x, 0, 2, 9);
        refused(x, 0, 0, 0, 11);
    }

    private static void forgeIsRefused() {
        LeaseBoard x = full();
        put(x, 0, 1, 0);
        for (int n : WRONG) {
            refused(x, n, 7, 1, 1);
            refused(x, 0, n, 1, 1);
        }
        refused(x, 6, 7, 1, 1);
        refused(x, 0, 9, 1, 1);
        for (int what = 0; what <= 9; what++) {
            refused(x, 0, what, -101, 1);
            refused(x, 0, what, 101, 1);
            refused(x, 0, what, Integer.MIN_VALUE, 1);
            refused(x, 0, what, Integer.MAX_VALUE, 1);
        }
        x.look(0);
        x.count(99);
        Check.due("STATUS is of put and forge alone", x.status(), 1);
    }

    private static void kinds() {
        LeaseBoard x = full();
        boolean[][] under = {{true, false, false, false, false}, {true, true, false, false, false},
            {true, true, true, false, false}, {true, false, false, true, false}, {true, false, false, false, true}};
        for (int kind = 0; kind < 5; kind++) {
            put(x, 0, 1, kind);
            for (int n = -100; n <= 100; n++) {
                int taken = ((n % 5) + 5) % 5;
                if (under[kind][taken]) {
                    forged(x, 0, 0, n, 10 + 10 * kind);
                } else {
                    refused(x, 0, 0, n, 11);
                }
            }
        }
        for (int what = 2; what <= 4; what++) {
            put(x, 0, what, 0);
            refused(x, 0, 0, 0, 11);
        }
        for (int n = -5; n <= 5; n++) {
            refused(x, 1, 0, n, 10);
        }
    }

    private static void letters() {
        LeaseBoard x = full();
        for (int l = 0; l < x.count(4); l++) {
            put(x, 3, 2, l);
            boolean toKeeper = x.letter(l, 0) < 4;
            for (int n : new int[] {0, 2, -2, 100, -100}) {
                if (toKeeper) {
                    forged(x, 3, 1, n, x.letter(l, 3));
                } else {
                    refused(x, 3, 1, n, 11);
                }
            }
            for (int n : new int[] {1, -1, 3, 99, -99}) {
                if (toKeeper) {
                    refused(x, 3, 1, n, 11);
                } else {
                    forged(x, 3, 1, n, x.letter(l, 3));
                }
            }
        }
        refused(x, 0, 1, 0, 10);
        refused(x, 0, 1, 1, 10);
        put(x, 0, 1, 0);
        refused(x, 0, 1, 0, 11);
        put(x, 0, 3, 0);
        refused(x, 0, 1, 1, 11);
        everyKindOfLetter();
    }

    private static void everyKindOfLetter() {
        LeaseBoard x = Boards.plain(1, 2);
        x.thing(3, 10, 0);
        Boards.taken(x, 0, 0, 1, 0);
        int renew = x.renew(0, 0, 0);
        int rise = x.rise(0, 0, 0);
        int end = x.end(0, 0, 0);
        for (int l : new int[] {renew, rise, end}) {
            put(x, 0, 2, l);
            forged(x, 0, 1, 0, 0);
            refused(x, 0, 1, 1, 11);
        }
        x.tick(12);
        int late = Boards.answered(x, renew);
        put(x, 0, 2, late);
        forged(x, 0, 1, 1, 0);
        refused(x, 0, 1, 0, 11);
    }

    private static void numbers() {
        LeaseBoard x = Boards.plain(1, 4);
        x.thing(1, 10, 0);
        put(x, 0, 3, 0);
        refused(x, 0, 2, 0, 12);
        for (int w = 0; w < 4; w++) {
            Boards.taken(x, w, 0, 1, 0);
        }
        refused(x, 0, 2, 0, 12);
        Boards.ended(x, 1, 0);
        put(x, 0, 3, 0);
        Boards.ended(x, 0, 0);
        forged(x, 0, 2, 0, 1);
        forged(x, 0, 2, 1, 3);
        forged(x, 0, 2, 2, 4);
        refused(x, 0, 2, 3, 12);
        refused(x, 0, 2, -1, 12);
        refused(x, 0, 2, 100, 12);
        refused(x, 1, 2, -1, 10);
        put(x, 1, 1, 0);
        refused(x, 1, 2, -1, 11);
        put(x, 1, 4, 0);
        refused(x, 1, 2, 0, 11);
        put(x, 1, 2, 0);
        refused(x, 1, 2, 0, 11);
    }

    private static void truths() {
        LeaseBoard x = Boards.plain(1, 3);
        x.thing(1, 10, 0);
        Boards.taken(x, 0, 0, 1, 0);
        Boards.taken(x, 2, 0, 1, 0);
        put(x, 0, 4, 0);
        forged(x, 0, 3, 0, 1);
        forged(x, 0, 3, 1, 0);
        forged(x, 0, 3, 2, 1);
        refused(x, 0, 3, 3, 12);
        refused(x, 0, 3, -1, 12);
        x.worker(0, 1000);
        refused(x, 0, 3, 3, 12);
        x.tick(10);
        forged(x, 0, 3, 0, 1);
        put(x, 0, 4, 0);
        forged(x, 0, 3, 0, 0);
        forged(x, 0, 3, 3, 0);
        refused(x, 1, 3, -1, 10);
        put(x, 1, 3, 0);
        refused(x, 1, 3, -1, 11);
        put(x, 1, 1, 0);
        refused(x, 1, 3, 0, 11);
        LeaseBoard y = new LeaseBoard(0);
        y.thing(0, 1, 0);
        put(y, 0, 4, 0);
        refused(y, 0, 3, 0, 12);
    }

    private static void sizes() {
        LeaseBoard x = full();
        for (int n = 0; n <= 100; n++) {
            forged(x, 0, 4, n, n);
        }
        refused(x, 0, 4, -1, 13);
        refused(x, 0, 4, -100, 13);
        put(x, 0, 1, 0);
        forged(x, 0, 4, 3, 3);
    }

    private static void copies() {
        LeaseBoard x = Boards.plain(1, 9);
        x.thing(1, 10, 0);
        put(x, 0, 3, 0);
        refused(x, 0, 5, 0, 12);
        for (int w = 0; w < 9; w++) {
            if (w == 1 || w == 2 || w == 3) {
                int have = w;
                put(x, 0, 3, 0);
                forged(x, 0, 5, 0, 0);
                for (int n = 1; n <= 4; n++) {
                    if (n < have && n <= 2) {
                        forged(x, 0, 5, n, n == 1 ? 2 : 5);
                    } else {
                        refused(x, 0, 5, n, 12);
                    }
                }
            }
            Boards.taken(x, w, 0, 1, 0);
        }
        put(x, 0, 3, 0);
        forged(x, 0, 5, 2, 5);
        refused(x, 0, 5, 3, 12);
        refused(x, 0, 5, -1, 12);
        refused(x, 0, 5, 100, 12);
        refused(x, 1, 5, -1, 10);
        refused(x, 1, 5, 0, 10);
        put(x, 1, 4, 0);
        refused(x, 1, 5, -1, 11);
        put(x, 1, 1, 0);
        refused(x, 1, 5, 0, 11);
        put(x, 1, 2, 0);
        refused(x, 1, 5, 0, 11);
    }

    private static void laid() {
        LeaseBoard x = full();
        forged(x, 0, 6, 0, 0);
        for (int kind = 0; kind < 5; kind++) {
            put(x, 0, 1, kind);
            if (kind == 1 || kind == 2) {
                forged(x, 0, 6, -100, 10 + 10 * kind);
            } else {
                refused(x, 0, 6, 100, 14);
            }
        }
        for (int what = 2; what <= 4; what++) {
            put(x, 0, what, 1);
            refused(x, 0, 6, 0, 14);
        }
        put(x, 0, 0, 0);
        forged(x, 0, 6, 0, 0);
    }

    private static void divided() {
        LeaseBoard x = full();
        for (int n = 1; n <= 100; n++) {
            forged(x, 0, 7, n, 1000 / n);
            forged(x, 0, 7, -n, -(1000 / n));
        }
        refused(x, 0, 7, 0, 15);
        put(x, 0, 2, 0);
        forged(x, 0, 7, 7, 142);
    }

    private static void failures() {
        LeaseBoard x = full();
        refused(x, 0, 8, 0, 10);
        put(x, 0, 1, 0);
        refused(x, 0, 8, -100, 10);
        forged(x, 0, 0, 0, 10);
    }
}
