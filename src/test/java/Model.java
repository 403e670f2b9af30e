import java.util.ArrayDeque;
import java.util.ArrayList;
import java.util.Comparator;
import java.util.List;
import java.util.TreeMap;
import java.util.TreeSet;

/** The document again, as slow and as plain as can be: time passes tick by tick where it is near. */
final class Model {
    static final long BAD = Check.BAD, NO = Check.NO, FULL = Check.FULL;
    static final long RING = Check.RING, NONE = Check.NONE, MOST = Check.MOST;
    private static final long NEAR = 3000;
    private static final int[] RANKS = {0, 1, 4, 2, 3};

    private static final class Due {
        int number, kind, say, times, wheel;
        Long tick, away;
        Integer ahead;
        long first, every, behind, reserve, place, moves;

        boolean repeats() {
            return kind == 1 || kind == 4;
        }

        Due copy() {
            Due d = new Due();
            d.number = number;
            d.kind = kind;
            d.say = say;
            d.times = times;
            d.wheel = wheel;
            d.tick = tick;
            d.away = away;
            d.ahead = ahead;
            d.first = first;
            d.every = every;
            d.behind = behind;
            d.reserve = reserve;
            d.place = place;
            d.moves = moves;
            return d;
        }
    }

    private static final class All {
        long time, places, goings, moves;
        TreeMap<Integer, Due> dues = new TreeMap<>();
        List<long[]> went = new ArrayList<>();

        All copy() {
            All a = new All();
            a.time = time;
            a.places = places;
            a.goings = goings;
            a.moves = moves;
            for (Due d : dues.values()) {
                a.dues.put(d.number, d.copy());
            }
            a.went = new ArrayList<>(went);
            return a;
        }
    }

    private All all = new All();
    private final ArrayDeque<All> kept = new ArrayDeque<>();

    private void keep() {
        kept.addLast(all.copy());
        if (kept.size() > 6) {
            kept.removeFirst();
        }
    }

    private static long power(int wheel) {
        long p = 1;
        for (int i = 0; i < wheel; i++) {
            p *= 64;
        }
        return p;
    }

    private static int wheel(long time, long tick) {
        for (int k = 0; k < 5; k++) {
            if (time / power(k + 1) == tick / power(k + 1)) {
                return k;
            }
        }
        return 5;
    }

    private static long slot(Due d) {
        return d.wheel == 5 ? 0 : d.tick / power(d.wheel) % 64;
    }

    private void tick(Due d, long tick) {
        d.tick = Math.min(tick, MOST);
        d.wheel = wheel(all.time, d.tick);
        d.moves = 0;
    }

    private Due due(int kind, int say) {
        keep();
        Due d = new Due();
        while (all.dues.containsKey(d.number)) {
            d.number++;
        }
        d.kind = kind;
        d.say = say;
        d.place = all.places++;
        all.dues.put(d.number, d);
        return d;
    }

    private boolean isTick(long tick) {
        return all.time < tick && tick <= MOST;
    }

    private boolean isFull() {
        return all.dues.size() == 200;
    }

    long once(long tick, int say) {
        if (!isTick(tick)) return BAD;
        if (isFull()) return FULL;
        Due d = due(0, say);
        tick(d, tick);
        return d.number;
    }

    long often(long tick, long every, int times, int say) {
        return repeated(1, tick, every, times, say);
    }

    long resting(long tick, long every, int times, int say) {
        return repeated(4, tick, every, times, say);
    }

    private long repeated(int kind, long tick, long every, int times, int say) {
        if (!isTick(tick) || every < 1 || every > MOST || times < 0 || times > 1000000) return BAD;
        if (isFull()) return FULL;
        Due d = due(kind, say);
        d.every = every;
        d.times = times;
        tick(d, tick);
        return d.number;
    }

    long loose(long first, long last, int say) {
        if (!isTick(last) || first < 0 || first > last) return BAD;
        if (isFull()) return FULL;
        Due d = due(2, say);
        d.first = first;
        tick(d, last);
        return d.number;
    }

    long chained(int ahead, long behind, long reserve, int say) {
        if (!all.dues.containsKey(ahead) || behind < 1 || behind > MOST || reserve < 0 || reserve > MOST) {
            return BAD;
        }
        if (isFull()) return FULL;
        Due d = due(3, say);
        d.ahead = ahead;
        d.behind = behind;
        d.reserve = reserve;
        return d.number;
    }

    long drop(int due) {
        if (!all.dues.containsKey(due)) return BAD;
        keep();
        Due d = all.dues.remove(due);
        for (Due w : all.dues.values()) {
            if (w.ahead != null && w.ahead == due) {
                w.ahead = null;
                tick(w, w.reserve > all.time ? w.reserve : all.time + 1);
            }
        }
        return d.say;
    }

    long shift(int due, long by) {
        Due d = all.dues.get(due);
        if (d == null || by < -MOST || by > MOST) return BAD;
        if (d.tick == null) return NO;
        if (!isTick(d.tick + by)) return BAD;
        keep();
        d = all.dues.get(due);
        if (d.kind == 2) d.first = Math.max(0, d.first + by);
        tick(d, d.tick + by);
        d.place = all.places++;
        return d.tick;
    }

    long chain(int due, int ahead) {
        Due d = all.dues.get(due);
        if (d == null || !all.dues.containsKey(ahead)) return BAD;
        if (d.ahead == null) return NO;
        for (Integer a = ahead; a != null; a = all.dues.get(a).ahead) {
            if (a == due) return RING;
        }
        keep();
        d.ahead = ahead;
        return 0;
    }

    long rest(int due) {
        Due d = all.dues.get(due);
        if (d == null) return BAD;
        if (d.kind != 4 || d.away != null) return NO;
        keep();
        d.away = d.tick - all.time;
        d.tick = null;
        d.moves = 0;
        return d.away;
    }

    long wake(int due) {
        Due d = all.dues.get(due);
        if (d == null) return BAD;
        if (d.away == null) return NO;
        keep();
        tick(d, all.time + d.away);
        d.away = null;
        d.place = all.places++;
        return d.tick;
    }

    private static long orNone(boolean has, long number) {
        return has ? number : NONE;
    }

    long about(int due, int what) {
        Due d = all.dues.get(due);
        if (d == null) return BAD;
        switch (what) {
            case 0: return d.kind;
            case 1: return d.say;
            case 2: return d.tick == null ? NONE : d.tick;
            case 3: return orNone(d.kind == 2, d.first);
            case 4: return orNone(d.repeats(), d.every);
            case 5: return orNone(d.repeats(), d.times);
            case 6: return d.ahead == null ? NONE : d.ahead;
            case 7: return d.away == null ? NONE : d.away;
            case 8: return d.place;
            default: return BAD;
        }
    }

    long isOf(int due, int kind) {
        Due d = all.dues.get(due);
        if (d == null || kind < 0 || kind > 4) return BAD;
        return kind == d.kind || kind == 1 && d.repeats() ? 1 : 0;
    }

    long go(long tick) {
        if (tick < all.time || tick >= MOST) return BAD;
        keep();
        all.went.clear();
        while (all.time < tick) {
            long t = tick - all.time <= NEAR ? all.time + 1 : nextOfInterest(tick);
            List<Due> goers = goers(t);
            if (all.went.size() + goers.size() > 300) {
                all.time = t - 1;
                return all.time;
            }
            all.time = t;
            move();
            goers.forEach(this::letGo);
        }
        return all.time;
    }

    /** Between these ticks nothing goes and nothing comes to lie on another wheel. */
    private long nextOfInterest(long to) {
        long least = to;
        for (Due d : all.dues.values()) {
            for (int k = 0; k < 6 && d.tick != null; k++) {
                long begins = d.tick - d.tick % power(k);
                if (begins > all.time) least = Math.min(least, begins);
            }
        }
        return least;
    }

    private List<Due> goers(long t) {
        boolean fast = false;
        for (Due d : all.dues.values()) {
            fast = fast || d.kind != 2 && d.tick != null && d.tick == t;
        }
        List<Due> goers = new ArrayList<>();
        for (Due d : all.dues.values()) {
            if (d.tick != null && (d.tick == t || d.kind == 2 && fast && d.first <= t)) goers.add(d);
        }
        goers.sort(Comparator.<Due>comparingInt(d -> RANKS[d.kind]).thenComparingLong(d -> d.place));
        return goers;
    }

    private void move() {
        for (Due d : all.dues.values()) {
            if (d.tick != null && wheel(all.time, d.tick) != d.wheel) {
                d.wheel = wheel(all.time, d.tick);
                d.moves++;
                all.moves++;
            }
        }
    }

    private void letGo(Due d) {
        all.went.add(new long[] {d.number, all.time, d.say});
        all.goings++;
        for (Due w : all.dues.values()) {
            if (w.ahead != null && w.ahead == d.number) {
                w.ahead = null;
                tick(w, all.time + w.behind);
            }
        }
        boolean lastTime = d.times == 1;
        if (!d.repeats() || lastTime || d.tick + d.every > MOST) {
            all.dues.remove(d.number);
            return;
        }
        if (d.times > 0) d.times--;
        tick(d, d.tick + d.every);
    }

    long went(int i, int what) {
        if (i < 0 || what < 0 || what > 2) return BAD;
        return i < all.went.size() ? all.went.get(i)[what] : NONE;
    }

    long next() {
        long least = MOST;
        for (Due d : all.dues.values()) {
            if (d.tick != null) least = Math.min(least, d.tick);
        }
        return least == MOST ? NONE : least;
    }

    long fewest() {
        TreeSet<Long> fast = fast();
        int ahead = fast.size();
        settle(all.copy(), fast);
        return fast.size() - ahead;
    }

    long settle() {
        keep();
        return settle(all, fast());
    }

    private TreeSet<Long> fast() {
        TreeSet<Long> fast = new TreeSet<>();
        for (Due d : all.dues.values()) {
            if (d.kind != 2 && d.tick != null) fast.add(d.tick);
        }
        return fast;
    }

    private long settle(All of, TreeSet<Long> fast) {
        List<Due> line = new ArrayList<>(of.dues.values());
        line.removeIf(d -> d.kind != 2);
        line.sort(Comparator.<Due>comparingLong(d -> d.tick).thenComparingLong(d -> d.place));
        long changed = 0;
        for (Due d : line) {
            Long least = fast.ceiling(Math.max(d.first, of.time + 1));
            if (least == null || least > d.tick) {
                fast.add(d.tick);
            } else if (!least.equals(d.tick)) {
                tick(d, least);
                changed++;
            }
        }
        return changed;
    }

    long lies(int due, int what) {
        Due d = all.dues.get(due);
        if (d == null || what < 0 || what > 2) return BAD;
        if (d.tick == null) return what == 2 ? 0 : NONE;
        return what == 0 ? d.wheel : what == 1 ? slot(d) : d.moves;
    }

    private List<Due> lying(int wheel, int slot) {
        List<Due> lying = new ArrayList<>();
        for (Due d : all.dues.values()) {
            if (d.tick != null && d.wheel == wheel && slot(d) == slot) lying.add(d);
        }
        return lying;
    }

    private static boolean isSlot(int wheel, int slot) {
        return wheel == 5 && slot == 0 || wheel >= 0 && wheel < 5 && slot >= 0 && slot < 64;
    }

    long bits(int wheel) {
        if (wheel < 0 || wheel > 4) return BAD;
        long bits = 0;
        for (int slot = 0; slot < 64; slot++) {
            if (!lying(wheel, slot).isEmpty()) bits |= 1L << slot;
        }
        return bits;
    }

    long many(int wheel, int slot) {
        return isSlot(wheel, slot) ? lying(wheel, slot).size() : BAD;
    }

    long in(int wheel, int slot, int i) {
        if (!isSlot(wheel, slot) || i < 0) return BAD;
        List<Due> lying = lying(wheel, slot);
        return i < lying.size() ? lying.get(i).number : NONE;
    }

    long now() {
        return all.time;
    }

    long undo() {
        if (kept.isEmpty()) return NO;
        all = kept.removeLast();
        return kept.size();
    }

    long count(int what) {
        switch (what) {
            case 0: return all.dues.size();
            case 1: return all.dues.values().stream().filter(d -> d.tick != null).count();
            case 2: return all.dues.values().stream().filter(d -> d.ahead != null).count();
            case 3: return all.dues.values().stream().filter(d -> d.away != null).count();
            case 4: return all.went.size();
            case 5: return all.goings;
            case 6: return all.moves;
            case 7: return kept.size();
            default: return BAD;
        }
    }
}
