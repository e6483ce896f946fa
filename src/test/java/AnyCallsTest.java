import java.util.Random;

/**
 * Runs by chance (always the same ones), of 512 calls each: every answer is the model's, no call throws,
 * and no two workers ever may use at once what no two may. Half-way and at the end all that can be asked is asked
 * (beyond the 512 calls: the class has no bound there), so that no letter goes unread.
 */
public final class AnyCallsTest {
    private static final String[] NAMES = {"keeper", "worker", "thing", "store", "tick", "clock", "wake", "fall",
        "lead", "ask", "renew", "end", "rise", "deliver", "lose", "twice", "letter", "wrote", "look", "grant",
        "ends", "told", "holds", "held", "write", "stored", "count", "put", "forge", "status"};
    private static final int[] FAR = {Integer.MIN_VALUE, Integer.MIN_VALUE + 1, -1000001, -101, -1, 0, 1, 5, 6, 20,
        101, 400, 1001, 100001, Integer.MAX_VALUE - 1, Integer.MAX_VALUE};

    private final Random random;
    private final LeaseBoard board;
    private final Model model;
    private final int drift;
    private final int[] seen;
    private final StringBuilder told = new StringBuilder();

    private AnyCallsTest(long seed, int[] seen) {
        random = new Random(seed);
        drift = random.nextInt(4) == 0 ? 0 : random.nextInt(8) == 0 ? far() : random.nextInt(101);
        board = new LeaseBoard(drift);
        model = new Model(drift);
        this.seen = seen;
    }

    public static void main(String[] args) {
        int runs = args.length > 0 ? Integer.parseInt(args[0]) : 8000;
        int[] seen = new int[8];
        boolean fine = true;
        for (int seed = 0; seed < runs && fine; seed++) {
            fine = new AnyCallsTest(seed, seen).run();
            Check.due("run " + seed, fine);
        }
        String[] happened = {"GRANTED", "NOs", "LATEs", "TURNS", "writes refused", "FULL", "RISERS", "GRANTED anew"};
        for (int i = 0; i < seen.length; i++) {
            System.out.println(happened[i] + ": " + seen[i]);
            Check.due("some of " + happened[i], seen[i] > 0);
        }
        Check.end();
    }

    private int far() {
        return FAR[random.nextInt(FAR.length)];
    }

    /** One of 0 .. n - 1, seldom one far off. */
    private int of(int n) {
        int chance = random.nextInt(60);
        return chance == 0 ? far() : chance == 1 ? n : n <= 0 ? 0 : random.nextInt(n);
    }

    private boolean run() {
        int calls = 0;
        boolean wild = random.nextInt(10) == 0;
        int workers = 1 + random.nextInt(4) * random.nextInt(5);
        int things = 1 + random.nextInt(3) * random.nextInt(3);
        int keepers = 1 + random.nextInt(3);
        for (int i = 0; i < keepers && !wild; i++) {
            calls += same("keeper", random.nextInt(200) - 100, rate(), 0, 0, 0);
        }
        for (int i = 0; i < workers && !wild; i++) {
            calls += same("worker", random.nextInt(200) - 100, rate(), 0, 0, 0);
        }
        for (int i = 0; i < things && !wild; i++) {
            int kind = random.nextInt(5);
            calls += same("thing", kind, 1 + random.nextInt(40), kind == 2 ? 1 + random.nextInt(9) : 0, 0, 0);
        }
        calls += wild ? 0 : same("store", 0, 0, 0, 0, 0) + same("lead", 0, 0, 0, 0, 0);
        while (calls < 512) {
            if (step(wild) == 0 || board.count(14) != 0) {
                System.out.println(told);
                return false;
            }
            calls++;
            if (calls == 256 && !isSameInAll()) {
                System.out.println(told);
                return false;
            }
        }
        if (!isSameInAll() || !isSameInTrays()) {
            System.out.println(told);
            return false;
        }
        seen[0] += board.count(9);
        seen[1] += board.count(10);
        seen[2] += board.count(11);
        seen[3] += board.count(12);
        seen[4] += board.count(13);
        return true;
    }

    private int rate() {
        int widest = (int) model.drift;
        return 1000 - widest + random.nextInt(2 * widest + 1);
    }

    private int step(boolean wild) {
        if (wild) {
            return same(NAMES[random.nextInt(NAMES.length)], any(), any(), any(), any(), any());
        }
        int chance = random.nextInt(100);
        if (chance < 36) {
            return letters();
        }
        if (chance < 58) {
            return acts();
        }
        if (chance < 64) {
            return same("tick", random.nextInt(12) == 0 ? of(100001) : random.nextInt(12), 0, 0, 0, 0);
        }
        if (chance < 70) {
            return keepersDo();
        }
        return chance < 92 ? asks() : chance < 99 ? trays() : makes();
    }

    private int any() {
        return random.nextInt(3) == 0 ? far() : random.nextInt(8);
    }

    private int letters() {
        int n = board.count(4);
        int letter = of(n);
        // most often one of the latest that are under way
        for (int i = n - 1; i >= 0 && random.nextInt(12) != 0; i--) {
            if (board.letter(i, 6) == 0 && random.nextInt(3) != 0) {
                letter = i;
                break;
            }
        }
        int chance = random.nextInt(20);
        return same(chance < 16 ? "deliver" : chance < 17 ? "lose" : "twice", letter, 0, 0, 0, 0);
    }

    private int acts() {
        int worker = of(board.count(1));
        int keeper = board.count(7) >= 0 && random.nextInt(20) != 0 ? board.count(7) : of(board.count(0));
        int thing = of(board.count(2));
        boolean holding = board.holds(worker, thing, 1) == 1;
        int chance = holding ? 2 + random.nextInt(10) : random.nextInt(5);
        if (chance < 3) {
            int parts = board.told(thing, 3) > 0 ? 1 + of(board.told(thing, 3)) : of(1);
            return same("ask", worker, keeper, thing, random.nextInt(3) == 0 ? 0 : of(2), parts);
        }
        if (chance < 6) {
            return same("rise", worker, keeper, thing, 0, 0);
        }
        if (chance < 10) {
            return same(chance < 8 ? "renew" : "end", worker, keeper, thing, 0, 0);
        }
        return same("write", worker, thing, of(board.count(3)), random.nextInt(), 0);
    }

    private int keepersDo() {
        int chance = random.nextInt(24);
        if (chance < 6 || board.count(7) < 0 && chance < 18) {
            return same("lead", of(board.count(0)), 0, 0, 0, 0);
        }
        if (chance < 7) {
            return same("fall", of(board.count(1)), 0, 0, 0, 0);
        }
        int what = of(2);
        return same("wake", what, of(board.count(what == 1 ? 1 : 0)), random.nextInt(6) == 0 ? 0 : 1, 0, 0);
    }

    private int asks() {
        int worker = of(board.count(1));
        int thing = of(board.count(2));
        switch (random.nextInt(12)) {
            case 0: return same("clock", of(2), of(5), 0, 0, 0);
            case 1: return same("letter", of(board.count(4)), of(7), 0, 0, 0);
            case 2: return same("wrote", of(board.count(4)), of(3), 0, 0, 0);
            case 3: return same("grant", thing, of(board.told(thing, 4)), of(3), 0, 0);
            case 4: return same("ends", thing, of(board.told(thing, 4)), of(2), 0, 0);
            case 5: return same("told", thing, of(18), 0, 0, 0);
            case 6: return same("holds", worker, thing, of(5), 0, 0);
            case 7: return same("held", worker, thing, of(2), 0, 0);
            case 8: return same("stored", of(board.count(3)), thing, of(2), 0, 0);
            case 9: return same("count", of(15), 0, 0, 0, 0);
            default: return same("look", thing, 0, 0, 0, 0);
        }
    }

    private int trays() {
        switch (random.nextInt(6)) {
            case 0: return same("put", of(6), 2, of(board.count(4)), 0, 0);
            case 1: return same("put", of(6), of(5), of(board.count(2)), 0, 0);
            case 2: return same("status", 0, 0, 0, 0, 0);
            default: return same("forge", of(6), of(9), random.nextInt(3) == 0 ? of(101) : random.nextInt(9) - 4, 0, 0);
        }
    }

    private int makes() {
        switch (random.nextInt(4)) {
            case 0: return same("keeper", of(1000001), 1000 + of(100), 0, 0, 0);
            case 1: return same("worker", of(1000001), 1000 - of(100), 0, 0, 0);
            case 2: return same("thing", of(5), of(1001), of(101), 0, 0);
            default: return same("store", 0, 0, 0, 0, 0);
        }
    }

    /** Makes the call on both: 1 if they answer the same. */
    private int same(String name, int a, int b, int c, int d, int e) {
        long want = ofModel(name, a, b, c, d, e);
        int before = board.count(9);
        long got = ofBoard(name, a, b, c, d, e);
        told.append(name).append(' ').append(a).append(' ').append(b).append(' ').append(c).append(' ');
        told.append(d).append(' ').append(e).append(" -> ").append(got).append(", due ").append(want).append('\n');
        seen[5] += got == -4 ? 1 : 0;
        if (name.equals("deliver") && got == 1 && board.letter(a, 0) == 3) {
            seen[6] += board.told(board.letter(a, 3), 5) >= 0 ? 1 : 0;
        }
        if (name.equals("deliver") && board.letter(a, 0) == 3 && board.count(9) > before) {
            seen[7]++;
        }
        return got == want ? 1 : 0;
    }

    private boolean isSame(String name, int a, int b, int c) {
        long want = ofModel(name, a, b, c, 0, 0);
        long got = ofBoard(name, a, b, c, 0, 0);
        if (got != want) {
            told.append("in all: ").append(name).append(' ').append(a).append(' ').append(b).append(' ').append(c);
            told.append(" -> ").append(got).append(", due ").append(want).append('\n');
        }
        return got == want;
    }

    private boolean isSameInAll() {
        boolean same = isSame("status", 0, 0, 0);
        for (int what = 0; what <= 14; what++) {
            same &= isSame("count", what, 0, 0);
        }
        for (int letter = 0; letter < board.count(4); letter++) {
            for (int what = 0; what <= 6; what++) {
                same &= isSame("letter", letter, what, 0) & isSame("wrote", letter, what, 0);
            }
        }
        for (int thing = 0; thing < board.count(2); thing++) {
            same &= isSameOf(thing);
        }
        for (int who = 0; who < 20; who++) {
            same &= isSame("clock", 0, who, 0) & isSame("clock", 1, who, 0);
        }
        return same;
    }

    private boolean isSameOf(int thing) {
        boolean same = true;
        for (int what = 0; what <= 17; what++) {
            same &= isSame("told", thing, what, 0);
        }
        for (int i = 0; i < board.told(thing, 4); i++) {
            for (int what = 0; what <= 2; what++) {
                same &= isSame("grant", thing, i, what) & isSame("ends", thing, i, what);
            }
        }
        for (int worker = 0; worker < board.count(1); worker++) {
            for (int what = 0; what <= 4; what++) {
                same &= isSame("holds", worker, thing, what) & isSame("held", worker, thing, what);
            }
        }
        for (int store = 0; store < board.count(3); store++) {
            same &= isSame("stored", store, thing, 0) & isSame("stored", store, thing, 1);
        }
        return same;
    }

    private boolean isSameInTrays() {
        boolean same = true;
        for (int tray = 0; tray < 6; tray++) {
            for (int what = 0; what <= 8; what++) {
                for (int n = -1; n <= 5; n++) {
                    same &= isSame("forge", tray, what, n) & isSame("status", 0, 0, 0);
                }
            }
        }
        return same;
    }

    private long ofBoard(String name, int a, int b, int c, int d, int e) {
        LeaseBoard x = board;
        return switch (name) {
            case "keeper" -> x.keeper(a, b);
            case "worker" -> x.worker(a, b);
            case "thing" -> x.thing(a, b, c);
            case "store" -> x.store();
            case "tick" -> x.tick(a);
            case "clock" -> x.clock(a, b);
            case "wake" -> x.wake(a, b, c != 0);
            case "fall" -> x.fall(a);
            case "lead" -> x.lead(a);
            case "ask" -> x.ask(a, b, c, d, e);
            case "renew" -> x.renew(a, b, c);
            case "end" -> x.end(a, b, c);
            case "rise" -> x.rise(a, b, c);
            case "deliver" -> x.deliver(a);
            case "lose" -> x.lose(a);
            case "twice" -> x.twice(a);
            case "letter" -> x.letter(a, b);
            case "wrote" -> x.wrote(a, b);
            case "look" -> x.look(a);
            case "grant" -> x.grant(a, b, c);
            case "ends" -> x.ends(a, b, c);
            case "told" -> x.told(a, b);
            case "holds" -> x.holds(a, b, c);
            case "held" -> x.held(a, b, c);
            case "write" -> x.write(a, b, c, (long) d << 31);
            case "stored" -> x.stored(a, b, c);
            case "count" -> x.count(a);
            case "put" -> x.put(a, b, c);
            case "forge" -> x.forge(a, b, c);
            default -> x.status();
        };
    }

    private long ofModel(String name, int a, int b, int c, int d, int e) {
        Model m = model;
        return switch (name) {
            case "keeper" -> m.party(m.keepers, 5, a, b);
            case "worker" -> m.party(m.workers, 20, a, b);
            case "thing" -> m.thing(a, b, c);
            case "store" -> m.store();
            case "tick" -> m.tick(a);
            case "clock" -> m.clock(a, b);
            case "wake" -> m.wake(a, b, c != 0);
            case "fall" -> m.fall(a);
            case "lead" -> m.lead(a);
            case "ask" -> m.act(0, a, b, c, d, e);
            case "renew" -> m.act(1, a, b, c, 0, 0);
            case "end" -> m.act(2, a, b, c, 0, 0);
            case "rise" -> m.act(3, a, b, c, 0, 0);
            case "deliver" -> m.deliver(a);
            case "lose" -> m.lose(a);
            case "twice" -> m.twice(a);
            case "letter" -> m.letter(a, b);
            case "wrote" -> m.wrote(a, b);
            case "look" -> m.look(a);
            case "grant" -> m.grant(a, b, c);
            case "ends" -> m.ends(a, b, c);
            case "told" -> m.told(a, b);
            case "holds" -> m.holds(a, b, c);
            case "held" -> m.held(a, b, c);
            case "write" -> m.write(a, b, c, (long) d << 31);
            case "stored" -> m.stored(a, b, c);
            case "count" -> m.count(a);
            case "put" -> m.put(a, b, c);
            case "forge" -> m.forge(a, b, c);
            default -> m.status;
        };
    }
}
