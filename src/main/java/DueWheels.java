/**
 * What is due when, for many things at once, on wheels within wheels.
 *
 * <p>Wheels are not held: where a due lies follows from the time and its tick alone, so it is
 * reckoned when it is asked for, and time can go on from one tick that has something to the next.
 */
public final class DueWheels {
    public static final long BAD = -2000000001L, NO = -2000000002L, FULL = -2000000003L,
            RING = -2000000004L, NONE = -2000000005L, MOST = 1125899906842624L;

    private static final int ONCE = 0, OFTEN = 1, LOOSE = 2, CHAINED = 3, RESTING = 4, KINDS = 5;

    // What is held of a due; the first nine are numbered as about() tells them.
    private static final int KIND = 0, SAY = 1, TICK = 2, FIRST = 3, EVERY = 4, TIMES = 5,
            AHEAD = 6, AWAY = 7, PLACE = 8, BEHIND = 9, RESERVE = 10, MOVES = 11;
    private static final int TOLD_FIELDS = 9, FIELDS = 12;

    // What is held of a going, numbered as went() tells it.
    private static final int ROW_DUE = 0, ROW_TICK = 1, ROW_SAY = 2, ROW_FIELDS = 3;

    private static final int DUES_MOST = 200, ROW_MOST = 300, KEPT_MOST = 6;
    private static final int TIMES_MOST = 1000000;
    private static final int DRAWER = 5, SLOTS = 64, SLOT_BITS = 6;

    private final Kept kept;
    private final Going going;
    private final Settling settling;
    private State state;

    public DueWheels() {
        kept = new Kept();
        going = new Going();
        settling = new Settling();
        state = new State();
    }

    // ---- dues

    public long once(long tick, int say) {
        if (!isTickAhead(tick)) {
            return BAD;
        }
        if (state.isFull()) {
            return FULL;
        }
        kept.keep(state);
        int due = state.open(ONCE, say);
        state.setTick(due, tick);
        return due;
    }

    public long often(long tick, long every, int times, int say) {
        return openRepeated(OFTEN, tick, every, times, say);
    }

    public long loose(long first, long last, int say) {
        if (!isTickAhead(last) || first < 0 || first > last) {
            return BAD;
        }
        if (state.isFull()) {
            return FULL;
        }
        kept.keep(state);
        int due = state.open(LOOSE, say);
        state.dues[FIRST][due] = first;
        state.setTick(due, last);
        return due;
    }

    public long chained(int ahead, long behind, long reserve, int say) {
        if (!state.isDue(ahead) || !isSpan(behind) || reserve < 0 || reserve > MOST) {
            return BAD;
        }
        if (state.isFull()) {
            return FULL;
        }
        kept.keep(state);
        int due = state.open(CHAINED, say);
        state.dues[AHEAD][due] = ahead;
        state.dues[BEHIND][due] = behind;
        state.dues[RESERVE][due] = reserve;
        return due;
    }

    public long resting(long tick, long every, int times, int say) {
        return openRepeated(RESTING, tick, every, times, say);
    }

    public long drop(int due) {
        if (!state.isDue(due)) {
            return BAD;
        }
        kept.keep(state);
        long say = state.dues[SAY][due];
        state.tellDropped(due);
        state.close(due);
        return say;
    }

    public long shift(int due, long d) {
        if (!state.isDue(due) || d < -MOST || d > MOST) {
            return BAD;
        }
        long tick = state.dues[TICK][due];
        if (tick == NONE) {
            return NO;
        }
        if (!isTickAhead(tick + d)) {
            return BAD;
        }
        kept.keep(state);
        long first = state.dues[FIRST][due];
        if (first != NONE) {
            state.dues[FIRST][due] = Math.max(first + d, 0L);
        }
        state.setTick(due, tick + d);
        state.setPlace(due);
        return tick + d;
    }

    public long chain(int due, int ahead) {
        if (!state.isDue(due) || !state.isDue(ahead)) {
            return BAD;
        }
        if (state.dues[AHEAD][due] == NONE) {
            return NO;
        }
        if (state.isBehind(ahead, due)) {
            return RING;
        }
        kept.keep(state);
        state.dues[AHEAD][due] = ahead;
        return 0;
    }

    public long rest(int due) {
        if (!state.isDue(due)) {
            return BAD;
        }
        if (state.dues[KIND][due] != RESTING || state.dues[AWAY][due] != NONE) {
            return NO;
        }
        kept.keep(state);
        long away = state.dues[TICK][due] - state.time;
        state.dues[AWAY][due] = away;
        state.dues[TICK][due] = NONE;
        state.dues[MOVES][due] = 0;
        return away;
    }

    public long wake(int due) {
        if (!state.isDue(due)) {
            return BAD;
        }
        long away = state.dues[AWAY][due];
        if (away == NONE) {
            return NO;
        }
        kept.keep(state);
        state.dues[AWAY][due] = NONE;
        state.setTick(due, state.time + away);
        state.setPlace(due);
        return state.dues[TICK][due];
    }

    public long about(int due, int what) {
        if (!state.isDue(due) || what < 0 || what >= TOLD_FIELDS) {
            return BAD;
        }
        return state.dues[what][due];
    }

    public long isOf(int due, int kind) {
        if (!state.isDue(due) || kind < 0 || kind >= KINDS) {
            return BAD;
        }
        long own = state.dues[KIND][due];
        return own == kind || own == RESTING && kind == OFTEN ? 1 : 0;
    }

    // ---- time

    public long go(long tick) {
        if (tick < state.time || tick > MOST - 1) {
            return BAD;
        }
        kept.keep(state);
        going.goOn(state, tick);
        return state.time;
    }

    public long went(int i, int what) {
        if (i < 0 || what < 0 || what >= ROW_FIELDS) {
            return BAD;
        }
        return i < state.rowSize ? state.row[what][i] : NONE;
    }

    public long next() {
        return state.leastTick();
    }

    public long fewest() {
        return settling.plan(state);
    }

    public long settle() {
        kept.keep(state);
        settling.plan(state);
        return settling.carryOut(state);
    }

    // ---- wheels

    public long lies(int due, int what) {
        if (!state.isDue(due) || what < 0 || what > 2) {
            return BAD;
        }
        if (what == 2) {
            return state.dues[MOVES][due];
        }
        long tick = state.dues[TICK][due];
        if (tick == NONE) {
            return NONE;
        }
        int wheel = Wheels.wheelOf(state.time, tick);
        return what == 0 ? wheel : Wheels.slotOf(wheel, tick);
    }

    public long bits(int wheel) {
        if (wheel < 0 || wheel >= DRAWER) {
            return BAD;
        }
        long bits = 0;
        for (int due = 0; due < state.end; due++) {
            long tick = state.dues[TICK][due];
            if (tick != NONE && Wheels.wheelOf(state.time, tick) == wheel) {
                bits |= 1L << Wheels.slotOf(wheel, tick);
            }
        }
        return bits;
    }

    public long many(int wheel, int slot) {
        if (!Wheels.isSlot(wheel, slot)) {
            return BAD;
        }
        long found = 0;
        for (int due = 0; due < state.end; due++) {
            if (state.liesIn(due, wheel, slot)) {
                found++;
            }
        }
        return found;
    }

    public long in(int wheel, int slot, int i) {
        if (!Wheels.isSlot(wheel, slot) || i < 0) {
            return BAD;
        }
        int found = 0;
        for (int due = 0; due < state.end; due++) {
            if (state.liesIn(due, wheel, slot)) {
                if (found == i) {
                    return due;
                }
                found++;
            }
        }
        return NONE;
    }

    public long now() {
        return state.time;
    }

    public long undo() {
        if (kept.size == 0) {
            return NO;
        }
        state = kept.takeBack(state);
        return kept.size;
    }

    public long count(int what) {
        switch (what) {
            case 0:
                return state.duesWith(KIND);
            case 1:
                return state.duesWith(TICK);
            case 2:
                return state.duesWith(AHEAD);
            case 3:
                return state.duesWith(AWAY);
            case 4:
                return state.rowSize;
            case 5:
                return state.goings;
            case 6:
                return state.moves;
            case 7:
                return kept.size;
            default:
                return BAD;
        }
    }

    private boolean isTickAhead(long tick) {
        return tick > state.time && tick <= MOST;
    }

    private static boolean isSpan(long ticks) {
        return ticks >= 1 && ticks <= MOST;
    }

    private long openRepeated(int kind, long tick, long every, int times, int say) {
        if (!isTickAhead(tick) || !isSpan(every) || times < 0 || times > TIMES_MOST) {
            return BAD;
        }
        if (state.isFull()) {
            return FULL;
        }
        kept.keep(state);
        int due = state.open(kind, say);
        state.dues[EVERY][due] = every;
        state.dues[TIMES][due] = times;
        state.setTick(due, tick);
        return due;
    }

    /** Where a tick lies at a time. */
    private static final class Wheels {
        static int wheelOf(long time, long tick) {
            for (int wheel = 0; wheel < DRAWER; wheel++) {
                int turnBits = SLOT_BITS * (wheel + 1);
                if (time >> turnBits == tick >> turnBits) {
                    return wheel;
                }
            }
            return DRAWER;
        }

        static int slotOf(int wheel, long tick) {
            return wheel >= DRAWER ? 0 : (int) (tick >> SLOT_BITS * wheel & SLOTS - 1);
        }

        static boolean isSlot(int wheel, int slot) {
            if (wheel == DRAWER) {
                return slot == 0;
            }
            return wheel >= 0 && wheel < DRAWER && slot >= 0 && slot < SLOTS;
        }

        /** How often what has a tick moves down from one time to another that is not behind the tick. */
        static int movesDown(long from, long to, long tick) {
            int wheel = wheelOf(from, tick);
            int moves = 0;
            // Each move is to a lower wheel, so there are at most as many as wheels.
            for (int step = 0; step < DRAWER && wheel > 0; step++) {
                int slotBits = SLOT_BITS * wheel;
                long slotBegins = tick >> slotBits << slotBits;
                if (slotBegins > to) {
                    break;
                }
                wheel = wheelOf(slotBegins, tick);
                moves++;
            }
            return moves;
        }
    }

    /**
     * All that undo() takes back. What a due does not have is NONE, and so is the kind of a number
     * that no due has. No due has a number from end on: nothing there is read or copied.
     */
    private static final class State {
        long time;
        long places;
        long goings;
        long moves;
        int end;
        int rowSize;
        final long[][] dues = new long[FIELDS][DUES_MOST];
        final long[][] row = new long[ROW_FIELDS][ROW_MOST];

        void copyOf(State other) {
            time = other.time;
            places = other.places;
            goings = other.goings;
            moves = other.moves;
            end = other.end;
            rowSize = other.rowSize;
            for (int field = 0; field < FIELDS; field++) {
                System.arraycopy(other.dues[field], 0, dues[field], 0, end);
            }
            for (int field = 0; field < ROW_FIELDS; field++) {
                System.arraycopy(other.row[field], 0, row[field], 0, rowSize);
            }
        }

        boolean isDue(int due) {
            return due >= 0 && due < end && dues[KIND][due] != NONE;
        }

        int leastFree() {
            for (int due = 0; due < end; due++) {
                if (dues[KIND][due] == NONE) {
                    return due;
                }
            }
            return end;
        }

        boolean isFull() {
            return leastFree() >= DUES_MOST;
        }

        /** A new due without tick; only while there is room. */
        int open(int kind, int say) {
            int due = leastFree();
            if (due == end) {
                end++;
            }
            clear(due);
            dues[KIND][due] = kind;
            dues[SAY][due] = say;
            setPlace(due);
            return due;
        }

        void close(int due) {
            clear(due);
            for (int last = end - 1; last >= 0 && dues[KIND][last] == NONE; last--) {
                end = last;
            }
        }

        void clear(int due) {
            for (int field = 0; field < FIELDS; field++) {
                dues[field][due] = NONE;
            }
            dues[MOVES][due] = 0;
        }

        void setPlace(int due) {
            dues[PLACE][due] = places;
            places++;
        }

        void setTick(int due, long tick) {
            dues[TICK][due] = Math.min(tick, MOST);
            dues[MOVES][due] = 0;
        }

        /** Whether a due is another one, or waits behind it, however many stand between them. */
        boolean isBehind(int due, int other) {
            long at = due;
            // Nobody waits in a ring, so a line of those who wait is no longer than all dues.
            for (int step = 0; step < DUES_MOST && at >= 0 && at < end; step++) {
                if (at == other) {
                    return true;
                }
                at = dues[AHEAD][(int) at];
            }
            return false;
        }

        void tellDropped(int ahead) {
            for (int due = 0; due < end; due++) {
                if (dues[AHEAD][due] == ahead) {
                    dues[AHEAD][due] = NONE;
                    setTick(due, Math.max(dues[RESERVE][due], time + 1));
                }
            }
        }

        void tellGone(int ahead) {
            for (int due = 0; due < end; due++) {
                if (dues[AHEAD][due] == ahead) {
                    dues[AHEAD][due] = NONE;
                    setTick(due, time + dues[BEHIND][due]);
                }
            }
        }

        /** The least tick at which something goes: no loose one goes ahead of the least tick of all. */
        long leastTick() {
            long least = MOST;
            for (int due = 0; due < end; due++) {
                long tick = dues[TICK][due];
                if (tick != NONE && tick < least) {
                    least = tick;
                }
            }
            return least < MOST ? least : NONE;
        }

        boolean liesIn(int due, int wheel, int slot) {
            long tick = dues[TICK][due];
            return tick != NONE && Wheels.wheelOf(time, tick) == wheel
                    && Wheels.slotOf(wheel, tick) == slot;
        }

        long duesWith(int field) {
            long found = 0;
            for (int due = 0; due < end; due++) {
                if (dues[field][due] != NONE) {
                    found++;
                }
            }
            return found;
        }
    }

    /** The latest changes, each as the state ahead of it, in a ring of states that are used again. */
    private static final class Kept {
        final State[] ring = new State[KEPT_MOST];
        int latest;
        int size;

        void keep(State state) {
            latest = (latest + 1) % KEPT_MOST;
            // Made only as it is first needed, so that many objects with few changes stay small.
            if (ring[latest] == null) {
                ring[latest] = new State();
            }
            ring[latest].copyOf(state);
            size = Math.min(size + 1, KEPT_MOST);
        }

        /** The state ahead of the latest change; the one given is taken into the ring for it. */
        State takeBack(State given) {
            State before = ring[latest];
            if (before == null) {
                return given;
            }
            ring[latest] = given;
            latest = (latest + KEPT_MOST - 1) % KEPT_MOST;
            size--;
            return before;
        }
    }

    /** Dues in the order of a first number and, where that is the same, of a second one. */
    private static final class Line {
        int size;
        final int[] dues = new int[DUES_MOST];
        final long[] firstKeys = new long[DUES_MOST];
        final long[] secondKeys = new long[DUES_MOST];

        void add(int due, long firstKey, long secondKey) {
            if (size >= DUES_MOST) {
                return;
            }
            int at = size;
            for (; at > 0 && isAhead(firstKey, secondKey, at - 1); at--) {
                dues[at] = dues[at - 1];
                firstKeys[at] = firstKeys[at - 1];
                secondKeys[at] = secondKeys[at - 1];
            }
            dues[at] = due;
            firstKeys[at] = firstKey;
            secondKeys[at] = secondKey;
            size++;
        }

        boolean isAhead(long firstKey, long secondKey, int at) {
            return firstKey < firstKeys[at]
                    || firstKey == firstKeys[at] && secondKey < secondKeys[at];
        }
    }

    /** How time goes on. */
    private static final class Going {
        final Line line = new Line();

        void goOn(State state, long to) {
            state.rowSize = 0;
            boolean more = true;
            // Each tick but the last adds to the row, so they are at most one more than it takes.
            for (int step = 0; step <= ROW_MOST && more; step++) {
                more = passTick(state, to);
            }
        }

        /** Goes on to the next tick that has something: false, if there is none, or no room for it. */
        boolean passTick(State state, long to) {
            long tick = state.leastTick();
            if (tick == NONE || tick > to) {
                moveTime(state, to);
                return false;
            }
            findGoers(state, tick);
            if (state.rowSize + line.size > ROW_MOST) {
                moveTime(state, tick - 1);
                return false;
            }
            moveTime(state, tick);
            for (int i = 0; i < line.size; i++) {
                letGo(state, line.dues[i]);
            }
            return true;
        }

        /** Time goes on to a tick that is above no due's tick; what comes nearer moves down. */
        void moveTime(State state, long to) {
            // Within one turn of wheel 0 nothing comes to lie on another wheel.
            if (state.time >> SLOT_BITS != to >> SLOT_BITS) {
                for (int due = 0; due < state.end; due++) {
                    long tick = state.dues[TICK][due];
                    if (tick != NONE) {
                        int moves = Wheels.movesDown(state.time, to, tick);
                        state.dues[MOVES][due] += moves;
                        state.moves += moves;
                    }
                }
            }
            state.time = to;
        }

        void findGoers(State state, long tick) {
            boolean fast = isFast(state, tick);
            line.size = 0;
            for (int due = 0; due < state.end; due++) {
                if (state.dues[TICK][due] == tick || fast && isLooseFrom(state, due, tick)) {
                    line.add(due, rankOf(state.dues[KIND][due]), state.dues[PLACE][due]);
                }
            }
        }

        boolean isFast(State state, long tick) {
            for (int due = 0; due < state.end; due++) {
                if (state.dues[TICK][due] == tick && state.dues[KIND][due] != LOOSE) {
                    return true;
                }
            }
            return false;
        }

        boolean isLooseFrom(State state, int due, long tick) {
            return state.dues[KIND][due] == LOOSE && state.dues[FIRST][due] <= tick;
        }

        /** Kinds go in the order of their numbers, but loose ones behind all others. */
        long rankOf(long kind) {
            return kind == LOOSE ? KINDS : kind;
        }

        void letGo(State state, int due) {
            if (state.rowSize >= ROW_MOST) {
                return;
            }
            state.row[ROW_DUE][state.rowSize] = due;
            state.row[ROW_TICK][state.rowSize] = state.time;
            state.row[ROW_SAY][state.rowSize] = state.dues[SAY][due];
            state.rowSize++;
            state.goings++;
            state.tellGone(due);
            if (goesAgain(state, due)) {
                setAgain(state, due);
            } else {
                state.close(due);
            }
        }

        boolean goesAgain(State state, int due) {
            long every = state.dues[EVERY][due];
            return every != NONE && state.dues[TIMES][due] != 1 && state.time + every <= MOST;
        }

        void setAgain(State state, int due) {
            long times = state.dues[TIMES][due];
            // None left is told as without end, so it is taken off only where there is an end.
            if (times > 0) {
                state.dues[TIMES][due] = times - 1;
            }
            state.setTick(due, state.time + state.dues[EVERY][due]);
        }
    }

    /** How loose ones are settled: planned first, for fewest() asks for the plan alone. */
    private static final class Settling {
        final Line line = new Line();
        final long[] settled = new long[DUES_MOST];
        final long[] fast = new long[DUES_MOST];
        int fastSize;

        /** Finds the tick of each loose one: how many ticks become fast. */
        int plan(State state) {
            findFast(state);
            findLoose(state);
            int added = 0;
            for (int i = 0; i < line.size; i++) {
                int due = line.dues[i];
                long last = state.dues[TICK][due];
                long tick = leastFast(Math.max(state.dues[FIRST][due], state.time + 1), last);
                if (tick == NONE) {
                    addFast(last);
                    tick = last;
                    added++;
                }
                settled[i] = tick;
            }
            return added;
        }

        /** Gives the loose ones the ticks of the plan: how many got another one. */
        int carryOut(State state) {
            int changed = 0;
            for (int i = 0; i < line.size; i++) {
                if (state.dues[TICK][line.dues[i]] != settled[i]) {
                    state.setTick(line.dues[i], settled[i]);
                    changed++;
                }
            }
            return changed;
        }

        void findFast(State state) {
            fastSize = 0;
            for (int due = 0; due < state.end; due++) {
                if (state.dues[KIND][due] != LOOSE && state.dues[TICK][due] != NONE) {
                    addFast(state.dues[TICK][due]);
                }
            }
        }

        void addFast(long tick) {
            // A due adds one tick at most, so there is room for all.
            if (fastSize < DUES_MOST) {
                fast[fastSize] = tick;
                fastSize++;
            }
        }

        void findLoose(State state) {
            line.size = 0;
            for (int due = 0; due < state.end; due++) {
                if (state.dues[KIND][due] == LOOSE) {
                    line.add(due, state.dues[TICK][due], state.dues[PLACE][due]);
                }
            }
        }

        long leastFast(long from, long to) {
            long least = NONE;
            for (int i = 0; i < fastSize; i++) {
                if (fast[i] >= from && fast[i] <= to && (least == NONE || fast[i] < least)) {
                    least = fast[i];
                }
            }
            return least;
        }
    }
}
