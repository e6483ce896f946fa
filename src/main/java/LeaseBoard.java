import java.util.ArrayList;

/**
 * A lease board: who may hold what until when, granted over letters that are lost, doubled or late.
 * The words in capitals in the comments are those of the document.
 */
public final class LeaseBoard {
    public static final int NONE = -1, BAD = -2, STATE = -3, FULL = -4;
    public static final long NO = -4611686018427387904L;

    private static final int KEEPERS = 5, WORKERS = 20, THINGS = 20, STORES = 6, LETTERS = 400;
    private static final int QUEUE = 8, TRAYS = 6;
    private static final int FARTHEST_BEGIN = 1000000, LONGEST_TICK = 100000, LAST_TIME = 100000000;

    private static final int ONLY = 0, SHARED = 1, COUNTED = 2, RISING = 3, WAITING = 4;
    private static final int WRITE = 0, READ = 1;

    private static final int ASK = 0, RENEW = 1, END = 2, RISE = 3;
    private static final int GRANT = 4, REFUSAL = 5, TURN = 6, LATE = 7;
    private static final int UNDER_WAY = 0, DELIVERED = 1, LOST = 2;

    private static final int DONE = 0, NO_SUCH_NUMBER = 1, NOTHING_THERE = 10, OTHER_SORT = 11;
    private static final int PLACE_OUTSIDE = 12, SIZE_BELOW_0 = 13, DOES_NOT_FIT = 14, DIVIDED_BY_0 = 15;

    /** Whoever has a CLOCK: a KEEPER, or, with a memory too, a WORKER. */
    private static class Party {
        final int begin;
        final int rate;
        boolean awake = true;

        Party(int begin, int rate) {
            this.begin = begin;
            this.rate = rate;
        }

        long shows(int time) {
            return begin + (long) time * rate / 1000;
        }
    }

    private static final class Worker extends Party {
        final Memory[] memories = new Memory[THINGS];
        int marks = 0;

        Worker(int begin, int rate) {
            super(begin, rate);
            for (int i = 0; i < memories.length; i++) {
                memories[i] = new Memory();
            }
        }

        Memory memoryOf(int thing) {
            return thing < 0 || thing >= memories.length ? null : memories[thing];
        }
    }

    /** What a WORKER knows of one THING: what it HOLDS, and for which MARK it WAITS (0: for none). */
    private static final class Memory {
        int awaited = 0;
        boolean holding = false;
        int mode = 0;
        int parts = 0;
        long number = 0;
        long until = 0;

        void keep(Letter l, long until) {
            holding = true;
            mode = l.mode;
            parts = l.parts;
            number = l.number;
            this.until = until;
        }

        void forget() {
            holding = false;
            awaited = 0;
        }
    }

    private static final class Grant {
        final int worker;
        final int parts;
        int mode;
        long number = 0;
        long end = 0;

        Grant(int worker, int mode, int parts) {
            this.worker = worker;
            this.mode = mode;
            this.parts = parts;
        }
    }

    /** A THING on THE BOARD; the kinds under it say otherwise where they differ. */
    private static class Only {
        final int kind;
        final int length;
        final int lasting;
        final ArrayList<Grant> grants = new ArrayList<>();
        long lastNumber = 0;

        Only(int kind, int length, int lasting) {
            this.kind = kind;
            this.length = length;
            this.lasting = lasting;
        }

        boolean mayBeAsked(int mode, int parts) {
            return mode == WRITE && parts == 0;
        }

        boolean fits(int worker, int mode, int parts) {
            return grants.isEmpty();
        }

        final boolean isWritten() {
            for (int i = 0; i < grants.size(); i++) {
                if (grants.get(i).mode == WRITE) {
                    return true;
                }
            }
            return false;
        }

        final Grant grantOf(int worker) {
            for (int i = 0; i < grants.size(); i++) {
                if (grants.get(i).worker == worker) {
                    return grants.get(i);
                }
            }
            return null;
        }

        /** The GRANT that a letter speaks of, or null if that is gone or has another NUMBER by now. */
        final Grant grantMeantBy(Letter l) {
            Grant g = grantOf(l.worker);
            return g == null || g.number != l.number ? null : g;
        }

        final void numberAnew(Grant g, long c) {
            lastNumber++;
            g.number = lastNumber;
            g.end = c + lasting;
        }

        final void dropEnded(long c) {
            for (int i = grants.size() - 1; i >= 0; i--) {
                if (grants.get(i).end <= c) {
                    grants.remove(i);
                }
            }
        }

        final void dropGrantOf(int worker) {
            for (int i = grants.size() - 1; i >= 0; i--) {
                if (grants.get(i).worker == worker) {
                    grants.remove(i);
                }
            }
        }

        final void prolongAll(long c) {
            for (int i = 0; i < grants.size(); i++) {
                grants.get(i).end = c + lasting;
            }
        }
    }

    private static class Shared extends Only {
        Shared(int kind, int length, int lasting) {
            super(kind, length, lasting);
        }

        boolean mayBeAsked(int mode, int parts) {
            return (mode == WRITE || mode == READ) && parts == 0;
        }

        boolean fits(int worker, int mode, int parts) {
            return mode == READ ? !isWritten() : grants.isEmpty();
        }
    }

    private static final class Counted extends Shared {
        final int whole;

        Counted(int length, int lasting, int whole) {
            super(COUNTED, length, lasting);
            this.whole = whole;
        }

        boolean mayBeAsked(int mode, int parts) {
            return mode == WRITE && parts >= 1 && parts <= whole;
        }

        boolean fits(int worker, int mode, int parts) {
            int sum = parts;
            for (int i = 0; i < grants.size(); i++) {
                sum += grants.get(i).parts;
            }
            return sum <= whole;
        }
    }

    private static final class Rising extends Only {
        int riser = NONE;

        Rising(int length, int lasting) {
            super(RISING, length, lasting);
        }

        boolean mayBeAsked(int mode, int parts) {
            return (mode == WRITE || mode == READ) && parts == 0;
        }

        boolean fits(int worker, int mode, int parts) {
            return mode == READ ? !isWritten() && riser == NONE : grants.isEmpty();
        }

        void dropLoneRiser() {
            if (grantOf(riser) == null) {
                riser = NONE;
            }
        }
    }

    private static final class Waiting extends Only {
        final int[] queue = new int[QUEUE];
        int queued = 0;
        boolean called = false;
        long calledEnd = 0;

        Waiting(int length, int lasting) {
            super(WAITING, length, lasting);
        }

        boolean fits(int worker, int mode, int parts) {
            return grants.isEmpty() && (queued == 0 || queue[0] == worker);
        }

        int queuedAt(int place) {
            return place < 0 || place >= queued || place >= queue.length ? NONE : queue[place];
        }

        boolean isQueued(int worker) {
            for (int i = 0; i < queued && i < queue.length; i++) {
                if (queue[i] == worker) {
                    return true;
                }
            }
            return false;
        }

        boolean isQueueFull() {
            return queued >= queue.length;
        }

        void join(int worker) {
            if (queued < queue.length) {
                queue[queued] = worker;
                queued++;
            }
        }

        /** The first goes, and with it that it was CALLED. */
        void dropFirst() {
            if (queued > 0) {
                for (int i = 1; i < queued && i < queue.length; i++) {
                    queue[i - 1] = queue[i];
                }
                queued--;
                called = false;
            }
        }

        void dropLateFirst(long c) {
            if (called && calledEnd <= c) {
                dropFirst();
            }
        }

        boolean isFirstDue() {
            return queued > 0 && grants.isEmpty() && !called;
        }

        void callFirst(long c) {
            called = true;
            calledEnd = c + lasting;
        }
    }

    private static final class Letter {
        final int kind;
        final int worker;
        final int keeper;
        final int thing;
        int mode = 0;
        int parts = 0;
        long number = 0;
        int mark = 0;
        long asked = 0;
        int how = UNDER_WAY;

        Letter(int kind, int worker, int keeper, int thing) {
            this.kind = kind;
            this.worker = worker;
            this.keeper = keeper;
            this.thing = thing;
        }

        boolean isToKeeper() {
            return kind <= RISE;
        }

        void takeMarkOf(Letter other) {
            mark = other.mark;
            asked = other.asked;
        }

        void fill(int mode, int parts, long number) {
            this.mode = mode;
            this.parts = parts;
            this.number = number;
        }
    }

    /** At most one of its four is there; none is nothing. */
    private static final class Tray {
        Only thing = null;
        Letter letter = null;
        long[] numbers = null;
        boolean[] truths = null;

        void clear() {
            thing = null;
            letter = null;
            numbers = null;
            truths = null;
        }

        boolean isEmpty() {
            return thing == null && letter == null && numbers == null && truths == null;
        }
    }

    private final int drift;
    private final ArrayList<Party> keepers = new ArrayList<>();
    private final ArrayList<Worker> workers = new ArrayList<>();
    private final ArrayList<Only> things = new ArrayList<>();
    private final ArrayList<Letter> letters = new ArrayList<>();
    private final long[][] greatest = new long[STORES][THINGS];
    private final long[][] written = new long[STORES][THINGS];
    private final Tray[] trays = new Tray[TRAYS];
    private int stores = 0;
    private int time = 0;
    private int leader = NONE;
    private int term = 0;
    private int granted = 0;
    private int refusals = 0;
    private int lates = 0;
    private int turns = 0;
    private int refusedWrites = 0;
    private int status = DONE;

    public LeaseBoard(int drift) {
        this.drift = Math.max(0, Math.min(100, drift));
        for (int i = 0; i < trays.length; i++) {
            trays[i] = new Tray();
        }
    }

    // ---- what there is

    public int keeper(int begin, int rate) {
        if (!isClock(begin, rate)) {
            return BAD;
        }
        if (keepers.size() >= KEEPERS) {
            return FULL;
        }
        keepers.add(new Party(begin, rate));
        return keepers.size() - 1;
    }

    public int worker(int begin, int rate) {
        if (!isClock(begin, rate)) {
            return BAD;
        }
        if (workers.size() >= WORKERS) {
            return FULL;
        }
        workers.add(new Worker(begin, rate));
        return workers.size() - 1;
    }

    public int thing(int kind, int length, int whole) {
        int leastWhole = kind == COUNTED ? 1 : 0;
        int mostWhole = kind == COUNTED ? 100 : 0;
        if (!isWithin(kind, ONLY, WAITING) || !isWithin(length, 1, 1000) || !isWithin(whole, leastWhole, mostWhole)) {
            return BAD;
        }
        if (things.size() >= THINGS) {
            return FULL;
        }
        things.add(newThing(kind, length, whole));
        return things.size() - 1;
    }

    public int store() {
        if (stores >= STORES) {
            return FULL;
        }
        stores++;
        return stores - 1;
    }

    public int tick(int n) {
        if (!isWithin(n, 0, LONGEST_TICK)) {
            return BAD;
        }
        if (time + n > LAST_TIME) {
            return FULL;
        }
        time += n;
        return time;
    }

    public long clock(int what, int who) {
        Party p = partyAt(what, who);
        return p == null ? NO : p.shows(time);
    }

    public int wake(int what, int who, boolean is) {
        Party p = partyAt(what, who);
        if (p == null) {
            return BAD;
        }
        boolean was = p.awake;
        p.awake = is;
        if (what == 0 && who == leader && !is) {
            leader = NONE;
        }
        return was == is ? 0 : 1;
    }

    public int fall(int worker) {
        Worker w = workerAt(worker);
        if (w == null) {
            return BAD;
        }
        int held = 0;
        for (int i = 0; i < things.size(); i++) {
            Memory m = w.memoryOf(i);
            if (m != null) {
                held += m.holding ? 1 : 0;
                m.forget();
            }
        }
        w.awake = false;
        return held;
    }

    public int lead(int keeper) {
        Party k = keeperAt(keeper);
        if (k == null) {
            return BAD;
        }
        if (!k.awake || !areMostAwake()) {
            return STATE;
        }
        term++;
        leader = keeper;
        prolongBoard(k.shows(time));
        return term;
    }

    // ---- workers' acts

    public int ask(int worker, int keeper, int thing, int mode, int parts) {
        Worker w = workerAt(worker);
        Only t = thingAt(thing);
        if (w == null || t == null || keeperAt(keeper) == null || !t.mayBeAsked(mode, parts)) {
            return BAD;
        }
        if (!w.awake) {
            return STATE;
        }
        if (!hasRoomFor(1)) {
            return FULL;
        }
        Letter l = new Letter(ASK, worker, keeper, thing);
        l.fill(mode, parts, 0);
        return sendMarked(l);
    }

    public int renew(int worker, int keeper, int thing) {
        int refusal = refusalToHolder(worker, keeper, thing);
        Memory m = memoryAt(worker, thing);
        if (refusal != DONE || m == null) {
            return refusal;
        }
        Letter l = new Letter(RENEW, worker, keeper, thing);
        l.fill(m.mode, m.parts, m.number);
        return sendMarked(l);
    }

    public int end(int worker, int keeper, int thing) {
        int refusal = refusalToHolder(worker, keeper, thing);
        Memory m = memoryAt(worker, thing);
        if (refusal != DONE || m == null) {
            return refusal;
        }
        Letter l = new Letter(END, worker, keeper, thing);
        l.fill(m.mode, m.parts, m.number);
        m.forget();
        return send(l);
    }

    public int rise(int worker, int keeper, int thing) {
        if (!(thingAt(thing) instanceof Rising)) {
            return BAD;
        }
        int refusal = refusalToHolder(worker, keeper, thing);
        Memory m = memoryAt(worker, thing);
        if (refusal != DONE || m == null) {
            return refusal;
        }
        Letter l = new Letter(RISE, worker, keeper, thing);
        l.fill(WRITE, 0, m.number);
        return sendMarked(l);
    }

    // ---- letters

    public int deliver(int letter) {
        Letter l = letterAt(letter);
        if (l == null) {
            return BAD;
        }
        if (l.how != UNDER_WAY) {
            return STATE;
        }
        if (!hasRoomFor(3)) {
            return FULL;
        }
        l.how = DELIVERED;
        return l.isToKeeper() ? reachKeeper(l) : reachWorker(l);
    }

    public int lose(int letter) {
        Letter l = letterAt(letter);
        if (l == null) {
            return BAD;
        }
        if (l.how != UNDER_WAY) {
            return STATE;
        }
        l.how = LOST;
        return 1;
    }

    public int twice(int letter) {
        Letter l = letterAt(letter);
        if (l == null) {
            return BAD;
        }
        if (!hasRoomFor(1)) {
            return FULL;
        }
        Letter more = new Letter(l.kind, l.worker, l.keeper, l.thing);
        more.fill(l.mode, l.parts, l.number);
        more.takeMarkOf(l);
        return send(more);
    }

    public int letter(int l, int what) {
        Letter it = letterAt(l);
        if (it == null) {
            return BAD;
        }
        switch (what) {
            case 0: return it.kind;
            case 1: return it.worker;
            case 2: return it.keeper;
            case 3: return it.thing;
            case 4: return it.mode;
            case 5: return it.parts;
            case 6: return it.how;
            default: return BAD;
        }
    }

    public long wrote(int l, int what) {
        Letter it = letterAt(l);
        if (it == null) {
            return NO;
        }
        switch (what) {
            case 0: return it.number;
            case 1: return it.asked;
            case 2: return it.mark;
            default: return NO;
        }
    }

    // ---- what is told

    public int look(int thing) {
        Only t = thingAt(thing);
        if (t == null) {
            return BAD;
        }
        Party k = ableLeader();
        if (k == null) {
            return STATE;
        }
        if (!hasRoomFor(1)) {
            return FULL;
        }
        lookAt(t, thing, k.shows(time));
        return t.grants.size();
    }

    public int grant(int thing, int i, int what) {
        if (thingAt(thing) == null || !isWithin(what, 0, 2)) {
            return BAD;
        }
        Grant g = grantAt(thing, i);
        if (g == null) {
            return NONE;
        }
        switch (what) {
            case 0: return g.worker;
            case 1: return g.mode;
            default: return g.parts;
        }
    }

    public long ends(int thing, int i, int what) {
        Grant g = grantAt(thing, i);
        if (g == null || !isWithin(what, 0, 1)) {
            return NO;
        }
        return what == 0 ? g.number : g.end;
    }

    public int told(int thing, int what) {
        Only t = thingAt(thing);
        if (t == null || what < 0) {
            return BAD;
        }
        switch (what) {
            case 0: return t.kind;
            case 1: return t.length;
            case 2: return t.lasting;
            case 3: return t instanceof Counted c ? c.whole : 0;
            case 4: return t.grants.size();
            case 5: return t instanceof Rising r ? r.riser : NONE;
            case 6: return t instanceof Waiting w ? w.queued : 0;
            case 7: return t instanceof Waiting w && w.called ? 1 : 0;
            case 8: return usersOf(thing);
            default: return t instanceof Waiting w ? w.queuedAt(what - 9) : NONE;
        }
    }

    public int holds(int worker, int thing, int what) {
        Memory m = memoryAt(worker, thing);
        if (m == null) {
            return BAD;
        }
        switch (what) {
            case 0: return mayUse(worker, thing) ? 1 : 0;
            case 1: return m.holding ? 1 : 0;
            case 2: return m.holding ? m.mode : NONE;
            case 3: return m.holding ? m.parts : NONE;
            case 4: return m.awaited != 0 ? 1 : 0;
            default: return BAD;
        }
    }

    public long held(int worker, int thing, int what) {
        Memory m = memoryAt(worker, thing);
        if (m == null || !m.holding || !isWithin(what, 0, 1)) {
            return NO;
        }
        return what == 0 ? m.number : m.until;
    }

    public int write(int worker, int thing, int store, long v) {
        Worker w = workerAt(worker);
        Memory m = memoryAt(worker, thing);
        if (w == null || m == null || !isStored(store, thing)) {
            return BAD;
        }
        if (!w.awake || !m.holding || m.mode == READ) {
            return STATE;
        }
        if (m.number < greatest[store][thing]) {
            refusedWrites++;
            return 0;
        }
        greatest[store][thing] = m.number;
        written[store][thing] = v;
        return 1;
    }

    public long stored(int store, int thing, int what) {
        if (!isStored(store, thing) || !isWithin(what, 0, 1)) {
            return NO;
        }
        return what == 0 ? greatest[store][thing] : written[store][thing];
    }

    public int count(int what) {
        switch (what) {
            case 0: return keepers.size();
            case 1: return workers.size();
            case 2: return things.size();
            case 3: return stores;
            case 4: return letters.size();
            case 5: return lettersUnderWay();
            case 6: return keepersAwake();
            case 7: return leader;
            case 8: return term;
            case 9: return granted;
            case 10: return refusals;
            case 11: return lates;
            case 12: return turns;
            case 13: return refusedWrites;
            case 14: return thingsInClash();
            default: return BAD;
        }
    }

    public int put(int tray, int what, int n) {
        Tray y = trayAt(tray);
        if (y == null || !canBePut(what, n)) {
            return refuse(NO_SUCH_NUMBER);
        }
        y.clear();
        switch (what) {
            case 1: y.thing = thingAt(n); break;
            case 2: y.letter = letterAt(n); break;
            case 3: y.numbers = numbersOf(n); break;
            case 4: y.truths = truthsOf(n); break;
            default: break;
        }
        status = DONE;
        return 1;
    }

    public int forge(int tray, int what, int n) {
        Tray y = trayAt(tray);
        if (y == null || !isWithin(n, -100, 100)) {
            return refuse(NO_SUCH_NUMBER);
        }
        status = DONE;
        switch (what) {
            case 0: return lengthAsKind(y, Math.floorMod(n, 5));
            case 1: return thingOfLetter(y, (n & 1) == 0);
            case 2: return numberAt(y, n);
            case 3: return truthAt(y, n);
            case 4: return n < 0 ? refuse(SIZE_BELOW_0) : n;
            case 5: return sumOfCopied(y, n);
            case 6: return lengthLaidAmongShared(y);
            case 7: return n == 0 ? refuse(DIVIDED_BY_0) : 1000 / n;
            case 8: return refuse(NOTHING_THERE);
            default: return refuse(NO_SUCH_NUMBER);
        }
    }

    public int status() {
        return status;
    }

    // ---- numbers, and what they stand for (null: no such)

    private static boolean isWithin(int n, int least, int most) {
        return n >= least && n <= most;
    }

    private boolean isClock(int begin, int rate) {
        return isWithin(begin, -FARTHEST_BEGIN, FARTHEST_BEGIN) && isWithin(rate, 1000 - drift, 1000 + drift);
    }

    private boolean isStored(int store, int thing) {
        return isWithin(store, 0, stores - 1) && store < STORES && thingAt(thing) != null && thing < THINGS;
    }

    private Party keeperAt(int n) {
        return isWithin(n, 0, keepers.size() - 1) ? keepers.get(n) : null;
    }

    private Worker workerAt(int n) {
        return isWithin(n, 0, workers.size() - 1) ? workers.get(n) : null;
    }

    private Party partyAt(int what, int who) {
        switch (what) {
            case 0: return keeperAt(who);
            case 1: return workerAt(who);
            default: return null;
        }
    }

    private Only thingAt(int n) {
        return isWithin(n, 0, things.size() - 1) ? things.get(n) : null;
    }

    private Letter letterAt(int n) {
        return isWithin(n, 0, letters.size() - 1) ? letters.get(n) : null;
    }

    private Grant grantAt(int thing, int i) {
        Only t = thingAt(thing);
        return t != null && isWithin(i, 0, t.grants.size() - 1) ? t.grants.get(i) : null;
    }

    private Memory memoryAt(int worker, int thing) {
        Worker w = workerAt(worker);
        return w == null || thingAt(thing) == null ? null : w.memoryOf(thing);
    }

    private Tray trayAt(int n) {
        return isWithin(n, 0, trays.length - 1) ? trays[n] : null;
    }

    // ---- making things

    private Only newThing(int kind, int length, int whole) {
        int lasting = divideUp(length * (1000 + drift), 1000 - drift) + 2;
        switch (kind) {
            case SHARED: return new Shared(SHARED, length, lasting);
            case COUNTED: return new Counted(length, lasting, whole);
            case RISING: return new Rising(length, lasting);
            case WAITING: return new Waiting(length, lasting);
            default: return new Only(ONLY, length, lasting);
        }
    }

    private static int divideUp(int n, int by) {
        return by <= 0 ? 0 : (n + by - 1) / by;
    }

    // ---- keepers

    private int keepersAwake() {
        int awake = 0;
        for (int i = 0; i < keepers.size(); i++) {
            awake += keepers.get(i).awake ? 1 : 0;
        }
        return awake;
    }

    private boolean areMostAwake() {
        return 2 * keepersAwake() > keepers.size();
    }

    /** The LEADER, if MOST of the KEEPERS are AWAKE; it is AWAKE itself, for else it would lead no more. */
    private Party ableLeader() {
        return areMostAwake() ? keeperAt(leader) : null;
    }

    private void prolongBoard(long c) {
        for (int i = 0; i < things.size(); i++) {
            Only t = things.get(i);
            t.prolongAll(c);
            if (t instanceof Waiting w && w.called) {
                w.callFirst(c);
            }
        }
    }

    // ---- sending

    private boolean hasRoomFor(int more) {
        return letters.size() + more <= LETTERS;
    }

    private int send(Letter l) {
        if (letters.size() >= LETTERS) {
            return FULL;
        }
        letters.add(l);
        return letters.size() - 1;
    }

    private int sendMarked(Letter l) {
        Worker w = workerAt(l.worker);
        Memory m = memoryAt(l.worker, l.thing);
        if (w == null || m == null) {
            return BAD;
        }
        w.marks++;
        l.mark = w.marks;
        l.asked = w.shows(time);
        m.awaited = l.mark;
        return send(l);
    }

    private int refusalToHolder(int worker, int keeper, int thing) {
        Worker w = workerAt(worker);
        Memory m = memoryAt(worker, thing);
        if (w == null || m == null || keeperAt(keeper) == null) {
            return BAD;
        }
        if (!w.awake || !m.holding) {
            return STATE;
        }
        return hasRoomFor(1) ? DONE : FULL;
    }

    private void answerGrant(Letter to, Grant g) {
        Letter l = new Letter(GRANT, to.worker, to.keeper, to.thing);
        l.fill(g.mode, g.parts, g.number);
        l.takeMarkOf(to);
        send(l);
    }

    private void answerRefusal(Letter to) {
        Letter l = new Letter(REFUSAL, to.worker, to.keeper, to.thing);
        l.takeMarkOf(to);
        send(l);
        refusals++;
    }

    private void answerLate(Letter to) {
        Letter l = new Letter(LATE, to.worker, to.keeper, to.thing);
        l.fill(WRITE, 0, to.number);
        send(l);
        lates++;
    }

    // ---- what a letter does to THE BOARD

    private int reachKeeper(Letter l) {
        Party k = ableLeader();
        Only t = thingAt(l.thing);
        if (k == null || t == null || l.keeper != leader) {
            return 0;
        }
        long c = k.shows(time);
        lookAt(t, l.thing, c);
        switch (l.kind) {
            case ASK: hearAsk(l, t, c); break;
            case RENEW: hearRenew(l, t, c); break;
            case END: hearEnd(l, t, c); break;
            default: hearRise(l, t, c); break;
        }
        return 1;
    }

    private void lookAt(Only t, int thing, long c) {
        t.dropEnded(c);
        if (t instanceof Rising r) {
            r.dropLoneRiser();
        }
        if (t instanceof Waiting w) {
            w.dropLateFirst(c);
            if (w.isFirstDue()) {
                w.callFirst(c);
                send(new Letter(TURN, w.queuedAt(0), leader, thing));
            }
        }
    }

    private void hearAsk(Letter l, Only t, long c) {
        if (t.grantOf(l.worker) != null) {
            answerRefusal(l);
        } else if (t.fits(l.worker, l.mode, l.parts)) {
            grantAsAsked(l, t, c);
        } else if (t instanceof Waiting w) {
            waitOrRefuse(l, w);
        } else {
            answerRefusal(l);
        }
    }

    private void grantAsAsked(Letter l, Only t, long c) {
        Grant g = new Grant(l.worker, l.mode, l.parts);
        t.grants.add(g);
        giveNumber(t, g, c);
        if (t instanceof Waiting w && w.queuedAt(0) == l.worker) {
            w.dropFirst();
        }
        answerGrant(l, g);
    }

    private void waitOrRefuse(Letter l, Waiting w) {
        if (w.isQueued(l.worker)) {
            return;
        }
        if (w.isQueueFull()) {
            answerRefusal(l);
        } else {
            w.join(l.worker);
        }
    }

    private void hearRenew(Letter l, Only t, long c) {
        Grant g = t.grantMeantBy(l);
        if (g == null) {
            answerLate(l);
        } else {
            g.end = c + t.lasting;
            answerGrant(l, g);
        }
    }

    private void hearEnd(Letter l, Only t, long c) {
        if (t.grantMeantBy(l) != null) {
            t.dropGrantOf(l.worker);
            lookAt(t, l.thing, c);
        }
    }

    private void hearRise(Letter l, Only t, long c) {
        Grant g = t.grantMeantBy(l);
        if (g == null) {
            answerLate(l);
        } else if (g.mode == WRITE) {
            g.end = c + t.lasting;
            answerGrant(l, g);
        } else if (t instanceof Rising r) {
            riseReader(l, r, g, c);
        }
    }

    private void riseReader(Letter l, Rising r, Grant g, long c) {
        if (r.riser != NONE && r.riser != l.worker) {
            answerRefusal(l);
            return;
        }
        r.riser = l.worker;
        if (r.grants.size() == 1) {
            g.mode = WRITE;
            giveNumber(r, g, c);
            r.riser = NONE;
            answerGrant(l, g);
        }
    }

    private void giveNumber(Only t, Grant g, long c) {
        t.numberAnew(g, c);
        granted++;
    }

    // ---- what a letter does to a WORKER

    private int reachWorker(Letter l) {
        Worker w = workerAt(l.worker);
        Memory m = memoryAt(l.worker, l.thing);
        Only t = thingAt(l.thing);
        if (w == null || m == null || t == null || !w.awake) {
            return 0;
        }
        switch (l.kind) {
            case GRANT: hearGrant(l, m, w.shows(time), t.length); break;
            case REFUSAL: hearRefusal(l, m); break;
            case LATE: hearLate(l, m); break;
            default: turns++; break;
        }
        return 1;
    }

    private static void hearGrant(Letter l, Memory m, long now, int length) {
        if (m.awaited != l.mark) {
            return;
        }
        m.awaited = 0;
        // counted from when it was asked, so that the hold ends before the GRANT on THE BOARD does
        long until = l.asked + length;
        if (until > now) {
            m.keep(l, until);
        }
    }

    private static void hearRefusal(Letter l, Memory m) {
        if (m.awaited == l.mark) {
            m.awaited = 0;
        }
    }

    private static void hearLate(Letter l, Memory m) {
        if (m.number == l.number) {
            m.holding = false;
        }
    }

    // ---- who MAY use what

    private boolean mayUse(int worker, int thing) {
        Worker w = workerAt(worker);
        Memory m = memoryAt(worker, thing);
        return w != null && m != null && w.awake && m.holding && w.shows(time) < m.until;
    }

    private int usersOf(int thing) {
        int users = 0;
        for (int i = 0; i < workers.size(); i++) {
            users += mayUse(i, thing) ? 1 : 0;
        }
        return users;
    }

    private int thingsInClash() {
        int clashes = 0;
        for (int i = 0; i < things.size(); i++) {
            clashes += isInClash(things.get(i), i) ? 1 : 0;
        }
        return clashes;
    }

    private boolean isInClash(Only t, int thing) {
        int users = 0;
        int writers = 0;
        int parts = 0;
        for (int i = 0; i < workers.size(); i++) {
            Memory m = memoryAt(i, thing);
            if (m != null && mayUse(i, thing)) {
                users++;
                writers += m.mode == WRITE ? 1 : 0;
                parts += m.parts;
            }
        }
        return t instanceof Counted c ? parts > c.whole : writers > 0 && users > 1;
    }

    private int lettersUnderWay() {
        int under = 0;
        for (int i = 0; i < letters.size(); i++) {
            under += letters.get(i).how == UNDER_WAY ? 1 : 0;
        }
        return under;
    }

    // ---- trays

    private int refuse(int why) {
        status = why;
        return -1;
    }

    private boolean canBePut(int what, int n) {
        switch (what) {
            case 0: return true;
            case 2: return letterAt(n) != null;
            case 1: case 3: case 4: return thingAt(n) != null;
            default: return false;
        }
    }

    private long[] numbersOf(int thing) {
        Only t = thingAt(thing);
        if (t == null) {
            return null;
        }
        long[] numbers = new long[t.grants.size()];
        for (int i = 0; i < numbers.length && i < t.grants.size(); i++) {
            numbers[i] = t.grants.get(i).number;
        }
        return numbers;
    }

    private boolean[] truthsOf(int thing) {
        boolean[] truths = new boolean[workers.size()];
        for (int i = 0; i < truths.length; i++) {
            truths[i] = mayUse(i, thing);
        }
        return truths;
    }

    private static boolean isOfKind(Only t, int kind) {
        switch (kind) {
            case SHARED: return t instanceof Shared;
            case COUNTED: return t instanceof Counted;
            case RISING: return t instanceof Rising;
            case WAITING: return t instanceof Waiting;
            default: return t != null;
        }
    }

    /** What the host says when a TRAY has not the thing of the sort that it is taken for. */
    private int refuseSort(Tray y) {
        return refuse(y.isEmpty() ? NOTHING_THERE : OTHER_SORT);
    }

    private int lengthAsKind(Tray y, int kind) {
        Only t = y.thing;
        return t == null || !isOfKind(t, kind) ? refuseSort(y) : t.length;
    }

    private int thingOfLetter(Tray y, boolean toKeeper) {
        Letter l = y.letter;
        return l == null || l.isToKeeper() != toKeeper ? refuseSort(y) : l.thing;
    }

    private int numberAt(Tray y, int n) {
        long[] numbers = y.numbers;
        if (numbers == null) {
            return refuseSort(y);
        }
        return isWithin(n, 0, numbers.length - 1) ? (int) numbers[n] : refuse(PLACE_OUTSIDE);
    }

    private int truthAt(Tray y, int n) {
        boolean[] truths = y.truths;
        if (truths == null) {
            return refuseSort(y);
        }
        if (!isWithin(n, 0, truths.length - 1)) {
            return refuse(PLACE_OUTSIDE);
        }
        return truths[n] ? 1 : 0;
    }

    /** The other places of the new row of 5 are 0, so its sum is that of the n that are copied. */
    private int sumOfCopied(Tray y, int n) {
        long[] numbers = y.numbers;
        if (numbers == null) {
            return refuseSort(y);
        }
        if (n < 0 || 1 + n > numbers.length || n + n > 5) {
            return refuse(PLACE_OUTSIDE);
        }
        long sum = 0;
        for (int i = 1; i <= n && i < numbers.length; i++) {
            sum += numbers[i];
        }
        return (int) sum;
    }

    private int lengthLaidAmongShared(Tray y) {
        if (y.isEmpty()) {
            return 0;
        }
        Only t = y.thing;
        return t instanceof Shared ? t.length : refuse(DOES_NOT_FIT);
    }
}
