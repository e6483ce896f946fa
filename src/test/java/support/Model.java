import java.util.ArrayList;
import java.util.Arrays;
import java.util.HashMap;
import java.util.List;
import java.util.Map;

/**
 * The document once more, as plainly as the Java library allows, for comparison.
 * The host's refusals are those that the Java machine itself makes, by what it throws.
 */
final class Model {
    static final long NONE = -1, BAD = -2, STATE = -3, FULL = -4, NO = -4611686018427387904L;

    static final class Someone {
        long begin, rate, marks;
        boolean awake = true;
        Map<Integer, Hold> holding = new HashMap<>();
        Map<Integer, Long> waits = new HashMap<>();
    }

    record Hold(long mode, long parts, long number, long until) {
    }

    static final class Lease {
        int worker;
        long mode, parts, number, end;
    }

    static class Thing0 {
        int kind;
        long length, lasting, whole, last;
        List<Lease> grants = new ArrayList<>();
        Integer riser = null;
        List<Integer> queue = new ArrayList<>();
        Long calledEnd = null;
    }

    static class Thing1 extends Thing0 {
    }

    static final class Thing2 extends Thing1 {
    }

    static final class Thing3 extends Thing0 {
    }

    static final class Thing4 extends Thing0 {
    }

    static class Post {
        int kind, worker, keeper, thing, how;
        long mode, parts, number, mark, asked;
    }

    static final class ToKeeper extends Post {
    }

    static final class ToWorker extends Post {
    }

    final long drift;
    final List<Someone> keepers = new ArrayList<>(), workers = new ArrayList<>();
    final List<Thing0> things = new ArrayList<>();
    final List<Map<Integer, long[]>> stores = new ArrayList<>();
    final List<Post> posts = new ArrayList<>();
    final Object[] trays = new Object[6];
    long time, term, granted, nos, lates, turns, refused, status;
    Integer leader = null;

    Model(int drift) {
        this.drift = drift < 0 ? 0 : drift > 100 ? 100 : drift;
    }

    long party(List<Someone> all, int most, long begin, long rate) {
        if (Math.abs(begin) > 1000000 || Math.abs(rate - 1000) > drift) return BAD;
        if (all.size() == most) return FULL;
        Someone s = new Someone();
        s.begin = begin;
        s.rate = rate;
        all.add(s);
        return all.size() - 1;
    }

    long thing(int kind, int length, int whole) {
        if (kind < 0 || kind > 4 || length < 1 || length > 1000) return BAD;
        if (kind == 2 ? whole < 1 || whole > 100 : whole != 0) return BAD;
        if (things.size() == 20) return FULL;
        Thing0[] fresh = {new Thing0(), new Thing1(), new Thing2(), new Thing3(), new Thing4()};
        Thing0 t = fresh[kind];
        t.kind = kind;
        t.length = length;
        t.whole = whole;
        long up = length * (1000 + drift);
        long by = 1000 - drift;
        t.lasting = up / by + (up % by == 0 ? 0 : 1) + 2;
        things.add(t);
        return things.size() - 1;
    }

    long store() {
        if (stores.size() == 6) return FULL;
        stores.add(new HashMap<>());
        return stores.size() - 1;
    }

    long tick(int n) {
        if (n < 0 || n > 100000) return BAD;
        if (time + n > 100000000) return FULL;
        return time += n;
    }

    static <T> boolean has(List<T> all, long n) {
        return n >= 0 && n < all.size();
    }

    long shows(Someone s) {
        return s.begin + time * s.rate / 1000;
    }

    Someone someone(int what, int who) {
        if (what == 0 && has(keepers, who)) return keepers.get(who);
        if (what == 1 && has(workers, who)) return workers.get(who);
        return null;
    }

    long clock(int what, int who) {
        Someone s = someone(what, who);
        return s == null ? NO : shows(s);
    }

    long wake(int what, int who, boolean is) {
        Someone s = someone(what, who);
        if (s == null) return BAD;
        if (s.awake == is) return 0;
        s.awake = is;
        if (what == 0 && leader != null && leader == who) leader = null;
        return 1;
    }

    long fall(int worker) {
        if (!has(workers, worker)) return BAD;
        Someone s = workers.get(worker);
        long n = s.holding.size();
        s.holding.clear();
        s.waits.clear();
        s.awake = false;
        return n;
    }

    long awakeKeepers() {
        return keepers.stream().filter(k -> k.awake).count();
    }

    boolean most() {
        return awakeKeepers() > keepers.size() / 2.0;
    }

    long lead(int keeper) {
        if (!has(keepers, keeper)) return BAD;
        if (!keepers.get(keeper).awake || !most()) return STATE;
        leader = keeper;
        for (Thing0 t : things) {
            long end = shows(keepers.get(keeper)) + t.lasting;
            t.grants.forEach(g -> g.end = end);
            if (t.calledEnd != null) t.calledEnd = end;
        }
        return ++term;
    }

    Post post(int kind, int worker, int keeper, int thing) {
        Post p = kind < 4 ? new ToKeeper() : new ToWorker();
        p.kind = kind;
        p.worker = worker;
        p.keeper = keeper;
        p.thing = thing;
        posts.add(p);
        return p;
    }

    long act(int kind, int worker, int keeper, int thing, int mode, int parts) {
        if (!has(workers, worker) || !has(keepers, keeper) || !has(things, thing)) return BAD;
        Thing0 t = things.get(thing);
        Someone s = workers.get(worker);
        if (kind == 0 && mode != 0 && !(mode == 1 && (t.kind == 1 || t.kind == 3))) return BAD;
        if (kind == 0 && (t.kind == 2 ? parts < 1 || parts > t.whole : parts != 0)) return BAD;
        if (kind == 3 && t.kind != 3) return BAD;
        if (!s.awake) return STATE;
        Hold h = s.holding.get(thing);
        if (kind != 0 && h == null) return STATE;
        if (posts.size() == 400) return FULL;
        Post p = post(kind, worker, keeper, thing);
        p.mode = kind == 0 ? mode : kind == 3 ? 0 : h.mode;
        p.parts = kind == 0 ? parts : kind == 3 ? 0 : h.parts;
        p.number = kind == 0 ? 0 : h.number;
        if (kind == 2) {
            s.holding.remove(thing);
            s.waits.remove(thing);
        } else {
            p.mark = ++s.marks;
            p.asked = shows(s);
            s.waits.put(thing, p.mark);
        }
        return posts.size() - 1;
    }

    long deliver(int letter) {
        if (!has(posts, letter)) return BAD;
        Post p = posts.get(letter);
        if (p.how != 0) return STATE;
        if (400 - posts.size() < 3) return FULL;
        p.how = 1;
        if (p instanceof ToWorker) return toWorker(p);
        if (leader == null || leader != p.keeper || !keepers.get(leader).awake || !most()) return 0;
        toKeeper(p);
        return 1;
    }

    void lookedAt(int thing) {
        Thing0 t = things.get(thing);
        long c = shows(keepers.get(leader));
        t.grants.removeIf(g -> g.end <= c);
        if (t.riser != null && t.grants.stream().noneMatch(g -> g.worker == t.riser)) t.riser = null;
        if (t.calledEnd != null && t.calledEnd <= c) {
            t.queue.remove(0);
            t.calledEnd = null;
        }
        if (!t.queue.isEmpty() && t.grants.isEmpty() && t.calledEnd == null) {
            t.calledEnd = c + t.lasting;
            post(6, t.queue.get(0), leader, thing);
        }
    }

    boolean fits(Thing0 t, Post p) {
        boolean none = t.grants.isEmpty();
        boolean noWriter = t.grants.stream().noneMatch(g -> g.mode == 0);
        return switch (t.kind) {
            case 0 -> none;
            case 1 -> p.mode == 1 ? noWriter : none;
            case 2 -> p.parts + t.grants.stream().mapToLong(g -> g.parts).sum() <= t.whole;
            case 3 -> p.mode == 1 ? noWriter && t.riser == null : none;
            default -> none && (t.queue.isEmpty() || t.queue.get(0) == p.worker);
        };
    }

    void toGrant(Thing0 t, Lease g) {
        g.number = ++t.last;
        g.end = shows(keepers.get(leader)) + t.lasting;
        granted++;
    }

    void answer(int kind, Post p, Lease g) {
        Post a = post(kind, p.worker, p.keeper, p.thing);
        if (kind == 7) {
            a.number = p.number;
            lates++;
            return;
        }
        a.mark = p.mark;
        a.asked = p.asked;
        if (kind == 5) {
            nos++;
            return;
        }
        a.mode = g.mode;
        a.parts = g.parts;
        a.number = g.number;
    }

    void toKeeper(Post p) {
        lookedAt(p.thing);
        Thing0 t = things.get(p.thing);
        Lease own = t.grants.stream().filter(g -> g.worker == p.worker).findFirst().orElse(null);
        Lease that = own != null && own.number == p.number ? own : null;
        if (p.kind == 0) {
            asked(p, t, own);
        } else if (p.kind == 2) {
            if (that != null) {
                t.grants.remove(that);
                lookedAt(p.thing);
            }
        } else if (that == null) {
            answer(7, p, null);
        } else if (p.kind == 1 || that.mode == 0) {
            that.end = shows(keepers.get(leader)) + t.lasting;
            answer(4, p, that);
        } else if (t.riser != null && t.riser != p.worker) {
            answer(5, p, null);
        } else if (t.grants.size() > 1) {
            t.riser = p.worker;
        } else {
            t.riser = null;
            that.mode = 0;
            toGrant(t, that);
            answer(4, p, that);
        }
    }

    void asked(Post p, Thing0 t, Lease own) {
        if (own == null && fits(t, p)) {
            Lease g = new Lease();
            g.worker = p.worker;
            g.mode = p.mode;
            g.parts = p.parts;
            toGrant(t, g);
            t.grants.add(g);
            if (t.queue.remove((Integer) p.worker)) t.calledEnd = null;
            answer(4, p, g);
        } else if (own != null || t.kind != 4) {
            answer(5, p, null);
        } else if (!t.queue.contains(p.worker)) {
            if (t.queue.size() == 8) answer(5, p, null);
            else t.queue.add(p.worker);
        }
    }

    long toWorker(Post p) {
        Someone s = workers.get(p.worker);
        if (!s.awake) return 0;
        if (p.kind == 6) turns++;
        if (p.kind == 7) {
            Hold h = s.holding.get(p.thing);
            if (h != null && h.number == p.number) s.holding.remove(p.thing);
        }
        if (p.kind <= 5 && s.waits.getOrDefault(p.thing, 0L) == p.mark) {
            s.waits.remove(p.thing);
            long until = p.asked + things.get(p.thing).length;
            if (p.kind == 4 && until > shows(s)) s.holding.put(p.thing, new Hold(p.mode, p.parts, p.number, until));
        }
        return 1;
    }

    long lose(int letter) {
        if (!has(posts, letter)) return BAD;
        if (posts.get(letter).how != 0) return STATE;
        posts.get(letter).how = 2;
        return 1;
    }

    long twice(int letter) {
        if (!has(posts, letter)) return BAD;
        if (posts.size() == 400) return FULL;
        Post p = posts.get(letter);
        Post q = post(p.kind, p.worker, p.keeper, p.thing);
        q.mode = p.mode;
        q.parts = p.parts;
        q.number = p.number;
        q.mark = p.mark;
        q.asked = p.asked;
        return posts.size() - 1;
    }

    long letter(int l, int what) {
        if (!has(posts, l) || what < 0 || what > 6) return BAD;
        Post p = posts.get(l);
        return new long[] {p.kind, p.worker, p.keeper, p.thing, p.mode, p.parts, p.how}[what];
    }

    long wrote(int l, int what) {
        if (!has(posts, l) || what < 0 || what > 2) return NO;
        Post p = posts.get(l);
        return new long[] {p.number, p.asked, p.mark}[what];
    }

    long look(int thing) {
        if (!has(things, thing)) return BAD;
        if (leader == null || !most()) return STATE;
        if (posts.size() == 400) return FULL;
        lookedAt(thing);
        return things.get(thing).grants.size();
    }

    long grant(int thing, int i, int what) {
        if (!has(things, thing) || what < 0 || what > 2) return BAD;
        if (!has(things.get(thing).grants, i)) return NONE;
        Lease g = things.get(thing).grants.get(i);
        return new long[] {g.worker, g.mode, g.parts}[what];
    }

    long ends(int thing, int i, int what) {
        if (!has(things, thing) || what < 0 || what > 1 || !has(things.get(thing).grants, i)) return NO;
        Lease g = things.get(thing).grants.get(i);
        return what == 0 ? g.number : g.end;
    }

    boolean may(Someone s, int thing) {
        Hold h = s.holding.get(thing);
        return s.awake && h != null && shows(s) < h.until;
    }

    long told(int thing, int what) {
        if (!has(things, thing) || what < 0) return BAD;
        Thing0 t = things.get(thing);
        if (what >= 9) return has(t.queue, what - 9) ? t.queue.get(what - 9) : NONE;
        long users = workers.stream().filter(w -> may(w, thing)).count();
        return new long[] {t.kind, t.length, t.lasting, t.whole, t.grants.size(),
            t.riser == null ? NONE : t.riser, t.queue.size(), t.calledEnd == null ? 0 : 1, users}[what];
    }

    long holds(int worker, int thing, int what) {
        if (!has(workers, worker) || !has(things, thing) || what < 0 || what > 4) return BAD;
        Someone s = workers.get(worker);
        Hold h = s.holding.get(thing);
        return new long[] {may(s, thing) ? 1 : 0, h == null ? 0 : 1, h == null ? NONE : h.mode,
            h == null ? NONE : h.parts, s.waits.containsKey(thing) ? 1 : 0}[what];
    }

    long held(int worker, int thing, int what) {
        if (!has(workers, worker) || what < 0 || what > 1) return NO;
        Hold h = workers.get(worker).holding.get(thing);
        return h == null ? NO : what == 0 ? h.number : h.until;
    }

    long write(int worker, int thing, int store, long v) {
        if (!has(workers, worker) || !has(things, thing) || !has(stores, store)) return BAD;
        Hold h = workers.get(worker).holding.get(thing);
        if (!workers.get(worker).awake || h == null || h.mode == 1) return STATE;
        if (h.number < stored(store, thing, 0)) {
            refused++;
            return 0;
        }
        stores.get(store).put(thing, new long[] {h.number, v});
        return 1;
    }

    long stored(int store, int thing, int what) {
        if (!has(stores, store) || !has(things, thing) || what < 0 || what > 1) return NO;
        return stores.get(store).getOrDefault(thing, new long[2])[what];
    }

    boolean clash(int thing) {
        List<Hold> used = workers.stream().filter(w -> may(w, thing)).map(w -> w.holding.get(thing)).toList();
        Thing0 t = things.get(thing);
        if (t.kind == 2) return used.stream().mapToLong(Hold::parts).sum() > t.whole;
        return used.size() > 1 && used.stream().anyMatch(h -> h.mode == 0);
    }

    long count(int what) {
        if (what < 0 || what > 14) return BAD;
        long under = posts.stream().filter(p -> p.how == 0).count();
        long clashes = 0;
        for (int i = 0; i < things.size(); i++) {
            clashes += clash(i) ? 1 : 0;
        }
        return new long[] {keepers.size(), workers.size(), things.size(), stores.size(), posts.size(), under,
            awakeKeepers(), leader == null ? NONE : leader, term, granted, nos, lates, turns, refused, clashes}[what];
    }

    long put(int tray, int what, int n) {
        status = 1;
        if (tray < 0 || tray > 5 || what < 0 || what > 4) return -1;
        if (what == 2 && !has(posts, n)) return -1;
        if ((what == 1 || what > 2) && !has(things, n)) return -1;
        trays[tray] = switch (what) {
            case 1 -> things.get(n);
            case 2 -> posts.get(n);
            case 3 -> things.get(n).grants.stream().mapToLong(g -> g.number).toArray();
            case 4 -> truths(n);
            default -> null;
        };
        status = 0;
        return 1;
    }

    boolean[] truths(int thing) {
        boolean[] all = new boolean[workers.size()];
        for (int i = 0; i < all.length; i++) {
            all[i] = may(workers.get(i), thing);
        }
        return all;
    }

    long forge(int tray, int what, int n) {
        status = 1;
        if (tray < 0 || tray > 5 || what < 0 || what > 8 || n < -100 || n > 100) return -1;
        status = 0;
        try {
            return host(trays[tray], what, n);
        } catch (NullPointerException e) {
            status = 10;
        } catch (ClassCastException e) {
            status = 11;
        } catch (IndexOutOfBoundsException e) {
            status = 12;
        } catch (NegativeArraySizeException e) {
            status = 13;
        } catch (ArrayStoreException e) {
            status = 14;
        } catch (ArithmeticException e) {
            status = 15;
        }
        return -1;
    }

    static long host(Object o, int what, int n) {
        switch (what) {
            case 0: return lengthAs(o, ((n % 5) + 5) % 5);
            case 1: return n % 2 == 0 ? ((ToKeeper) o).thing : ((ToWorker) o).thing;
            case 2: return (int) ((long[]) o)[n];
            case 3: return ((boolean[]) o)[n] ? 1 : 0;
            case 4: return new long[n].length;
            case 5:
                long[] row = new long[5];
                System.arraycopy((long[]) o, 1, row, n, n);
                return (int) Arrays.stream(row).sum();
            case 6:
                Object[] shared = new Thing1[1];
                shared[0] = o;
                return shared[0] == null ? 0 : ((Thing0) shared[0]).length;
            case 7: return 1000 / n;
            default: throw null;
        }
    }

    static long lengthAs(Object o, int kind) {
        switch (kind) {
            case 0: return ((Thing0) o).length;
            case 1: return ((Thing1) o).length;
            case 2: return ((Thing2) o).length;
            case 3: return ((Thing3) o).length;
            default: return ((Thing4) o).length;
        }
    }
}
