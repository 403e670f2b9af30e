import java.util.ArrayList;
import java.util.List;

/** Long runs of calls of all kinds, ordinary and wild, each answered as the model answers it. */
public final class ModelTest {
    private static final int RUNS = 2000, CALLS = 512;
    private static final long MOST = Check.MOST;
    private static final long[] WILD = {
        Long.MIN_VALUE, -MOST - 1, -MOST, -1, 0, 1, 63, 64, 4095, 4096, 1L << 30, (1L << 30) - 1,
        MOST - 1, MOST, MOST + 1, Long.MAX_VALUE, Integer.MAX_VALUE, Integer.MIN_VALUE, Check.NONE,
    };

    private final long run;
    private long seed;
    private final DueWheels x = new DueWheels();
    private final Model model = new Model();
    private final List<String> calls = new ArrayList<>();
    private final long span;
    private final int queries;
    private final int newOnes;

    private ModelTest(long run) {
        this.run = run;
        seed = run * 0x9E3779B97F4A7C15L + 1;
        long[] spans = {20, 100, 700, 9000, 1L << 20, 1L << 32, MOST / 40};
        span = spans[(int) (run % spans.length)];
        queries = (int) any(4);
        newOnes = (int) any(4);
        if (run % 11 == 0) {
            step(17, MOST - 1 - any(5 * span), 0, 0, 0);
        }
    }

    public static void main(String[] args) {
        for (long run = 0; run < RUNS; run++) {
            if (!new ModelTest(run).passes()) {
                System.exit(1);
            }
        }
        System.out.println(RUNS + " runs are as the model's");
    }

    private boolean passes() {
        // A step makes five calls at most.
        while (calls.size() <= CALLS - 5) {
            if (!step(method(), tick(), tick(), small(), small())) {
                System.out.println("run " + run + ":");
                calls.forEach(System.out::println);
                return false;
            }
        }
        return true;
    }

    /** xorshift, so that every run is always the same. */
    private long any(long below) {
        seed ^= seed << 13;
        seed ^= seed >>> 7;
        seed ^= seed << 17;
        return Math.floorMod(seed >>> 1, below);
    }

    private int method() {
        long at = any(10);
        if (at < 2 + newOnes) {
            return (int) any(5);
        }
        if (at < 5 + newOnes) {
            return (int) (5 + any(8));
        }
        return (int) (any(4) < queries ? 13 + any(4) : 17 + any(9));
    }

    private long tick() {
        return any(40) == 0 ? WILD[(int) any(WILD.length)] : 1 + any(span);
    }

    private int small() {
        if (any(40) == 0) {
            return (int) WILD[(int) any(WILD.length)];
        }
        return (int) (any(10) == 0 ? any(210) - 5 : any(10));
    }

    /** An own due mostly, for most numbers are of none. */
    private int due(int small) {
        long dues = model.count(0);
        return any(12) == 0 || dues == 0 ? small : (int) any(dues);
    }

    private long ahead(long ticks) {
        return ticks > 0 && ticks <= span ? model.now() + ticks : ticks;
    }

    private boolean step(int method, long a, long b, int i, int j) {
        int n = due(i);
        int m = due(j);
        int times = i < 6 ? i : i * 3;
        long tick = ahead(a);
        long d = any(2) == 0 ? a : -a / 4;
        long near = 1 + Math.abs(b % (span / 10 + 1));
        long first = any(3) == 0 ? any(Math.max(1, tick)) : tick - near * any(9);
        int slot = any(2) == 0 ? j : (int) any(64);
        int wheel = any(8) == 0 ? i : (int) any(6);
        slot = wheel == 5 && any(3) > 0 ? 0 : slot;
        switch (method) {
            case 0: return same("once", x.once(tick, j), model.once(tick, j), tick, j);
            case 1: return same("often", x.often(tick, near, times, j), model.often(tick, near, times, j), tick, near, times, j);
            case 2: return same("loose", x.loose(first, tick, j), model.loose(first, tick, j), first, tick, j);
            case 3: return same("chained", x.chained(n, near, tick, j), model.chained(n, near, tick, j), n, near, tick, j);
            case 4: return same("resting", x.resting(tick, near, times, j), model.resting(tick, near, times, j), tick, near, times, j);
            case 5: return any(3) > 0 || same("drop", x.drop(n), model.drop(n), n);
            case 6: return same("shift", x.shift(n, d), model.shift(n, d), n, d);
            case 7: return same("chain", x.chain(n, m), model.chain(n, m), n, m);
            case 8: return same("rest", x.rest(n), model.rest(n), n);
            case 9: return same("wake", x.wake(n), model.wake(n), n);
            case 10: return any(3) > 0 || same("settle", x.settle(), model.settle());
            case 11: return any(4) > 0 || same("undo", x.undo(), model.undo());
            case 12: return same("fewest", x.fewest(), model.fewest());
            case 13: return same("about", x.about(n, j), model.about(n, j), n, j);
            case 14: return same("lies", x.lies(n, j % 4), model.lies(n, j % 4), n, j % 4);
            case 15: return same("count", x.count(j), model.count(j), j);
            case 16: return same("isOf", x.isOf(n, j), model.isOf(n, j), n, j);
            case 17:
            case 18: return goAndLook(a, i);
            case 19: return same("went", x.went(i, j % 4), model.went(i, j % 4), i, j % 4);
            case 20: return same("next", x.next(), model.next());
            case 21: return same("bits", x.bits(wheel), model.bits(wheel), wheel);
            case 22: return same("many", x.many(wheel, slot), model.many(wheel, slot), wheel, slot);
            case 23: return same("in", x.in(wheel, slot, j), model.in(wheel, slot, j), wheel, slot, j);
            case 24: return same("now", x.now(), model.now());
            default: return same("count", x.count(6), model.count(6), 6);
        }
    }

    private boolean goAndLook(long a, int i) {
        long to = any(3) == 0 ? ahead(a) : a > 0 && a <= span ? model.now() + a / 8 : a;
        return same("go", x.go(to), model.go(to), to)
                && same("count", x.count(5), model.count(5), 5)
                && same("count", x.count(6), model.count(6), 6)
                && same("went", x.went(i, 0), model.went(i, 0), i, 0)
                && same("went", x.went(i, 1), model.went(i, 1), i, 1);
    }

    private boolean same(String name, long got, long want, Object... arguments) {
        StringBuilder call = new StringBuilder(name).append('(');
        for (int i = 0; i < arguments.length; i++) {
            call.append(i == 0 ? "" : ", ").append(arguments[i]);
        }
        call.append(") answered ").append(got);
        if (got != want) {
            call.append(", due is ").append(want);
        }
        calls.add(call.toString());
        return got == want;
    }
}
