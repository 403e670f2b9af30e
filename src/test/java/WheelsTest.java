/** Promises 19 to 25. */
public final class WheelsTest {
    private static final long BAD = Check.BAD, NO = Check.NO, NONE = Check.NONE, MOST = Check.MOST;
    private static final Check check = new Check();

    public static void main(String[] args) {
        lies();
        movesOneByOne();
        movesAtOnce();
        movesCountAnew();
        movesAheadOfWhatDoesNotFit();
        bits();
        many();
        in();
        now();
        undo();
        undoEachChange();
        keptAtMost();
        count();
        check.end();
    }

    private static void lies() {
        check.promise("19 lies");
        DueWheels x = new DueWheels();
        long tick = (5L << 24) + (4L << 18) + (3L << 12) + (2L << 6) + 1;
        x.once(tick, 1);
        x.once((1L << 30) - 1, 1);
        x.once(1L << 30, 1);
        x.resting(9, 1, 1, 1);
        x.rest(3);
        x.chained(0, 1, 1, 1);
        check.is(x.lies(5, 0), BAD);
        check.is(x.lies(-1, 0), BAD);
        check.is(x.lies(0, -1), BAD);
        check.is(x.lies(0, 3), BAD);
        check.is(x.lies(3, 3), BAD);
        check.is(x.lies(0, 0), 4);
        check.is(x.lies(0, 1), 5);
        check.is(x.lies(0, 2), 0);
        check.is(x.lies(1, 0), 4);
        check.is(x.lies(1, 1), 63);
        check.is(x.lies(2, 0), 5);
        check.is(x.lies(2, 1), 0);
        for (int due = 3; due < 5; due++) {
            check.is(x.lies(due, 0), NONE);
            check.is(x.lies(due, 1), NONE);
            check.is(x.lies(due, 2), 0);
        }
    }

    private static void movesOneByOne() {
        check.promise("19 MOVES, one by one");
        DueWheels x = new DueWheels();
        long tick = (1L << 30) + (5L << 24) + (4L << 18) + (3L << 12) + (2L << 6) + 1;
        x.once(tick, 1);
        long at = 0;
        for (int wheel = 5; wheel >= 1; wheel--) {
            at = tick >> 6 * wheel << 6 * wheel;
            x.go(at - 1);
            check.is(x.lies(0, 0), wheel);
            check.is(x.lies(0, 2), 5 - wheel);
            x.go(at);
            check.is(x.lies(0, 0), wheel - 1);
            check.is(x.lies(0, 1), (tick >> 6 * (wheel - 1)) & 63);
            check.is(x.lies(0, 2), 6 - wheel);
        }
        x.go(tick);
        check.went(x, 0, tick);
        check.is(x.count(6), 5);
    }

    private static void movesAtOnce() {
        check.promise("19 MOVES, at once");
        DueWheels x = new DueWheels();
        x.once((1L << 30) + (5L << 24) + (3L << 12) + 1, 1);
        x.once(1L << 18, 1);
        x.once(MOST - 1, 1);
        x.go(MOST - 1);
        check.is(x.count(6), 3 + 1 + 5);
        check.is(x.count(5), 3);
        x = new DueWheels();
        x.loose(0, 4096 + 64 + 1, 1);
        x.once(4096 + 5, 1);
        x.go(5000);
        check.went(x, 1, 4101, 0, 4101);
        check.is(x.count(6), 2);
    }

    private static void movesCountAnew() {
        check.promise("19 MOVES, from 0 with each TICK");
        DueWheels x = new DueWheels();
        x.often(100, 300, 0, 0);
        x.resting(5000, 300, 0, 1);
        x.once(5000, 2);
        x.chained(0, 4900, 0, 3);
        x.loose(90, 5000, 4);
        x.shift(4, 4000);
        x.go(64);
        check.is(x.lies(0, 2), 1);
        x.go(100);
        check.is(x.lies(0, 2), 0);
        check.is(x.lies(3, 2), 0);
        x.go(4990);
        check.is(x.lies(2, 2), 1);
        check.is(x.lies(3, 2), 1);
        check.is(x.lies(1, 2), 1);
        check.is(x.shift(2, 0), 5000);
        check.is(x.lies(2, 2), 0);
        long moved = x.count(6);
        x.rest(1);
        check.is(x.lies(1, 2), 0);
        x.wake(1);
        check.is(x.lies(1, 2), 0);
        check.is(x.count(6), moved);
        check.is(x.lies(0, 2), 0);
        x.go(4992);
        check.is(x.lies(2, 2), 1);
        movesOfDropped();
    }

    private static void movesOfDropped() {
        DueWheels x = new DueWheels();
        x.once(9000, 0);
        x.chained(0, 1, 200, 1);
        x.go(80);
        x.drop(0);
        check.is(x.lies(1, 0), 1);
        check.is(x.lies(1, 1), 3);
        x.go(192);
        check.is(x.lies(1, 2), 1);
        check.is(x.count(6), 1);
    }

    private static void movesAheadOfWhatDoesNotFit() {
        check.promise("19 MOVES, ahead of what does not fit");
        DueWheels x = new DueWheels();
        x.often(1, 1, 299, 0);
        x.once(320, 1);
        x.once(320, 2);
        check.is(x.go(400), 319);
        check.is(x.lies(1, 0), 1);
        check.is(x.lies(1, 2), 0);
        check.is(x.count(6), 4);
    }

    private static void bits() {
        check.promise("20 bits");
        DueWheels x = new DueWheels();
        check.is(x.bits(-1), BAD);
        check.is(x.bits(5), BAD);
        check.is(x.bits(Integer.MAX_VALUE), BAD);
        for (int wheel = 0; wheel < 5; wheel++) {
            check.is(x.bits(wheel), 0);
            x.once(63L << 6 * wheel, 1);
            x.once((31L << 6 * wheel) + (1L << 6 * wheel) - 1, 1);
            x.once(1L << 6 * wheel, 1);
            check.is(x.bits(wheel), Long.MIN_VALUE + (1L << 31) + 2);
        }
        x.once(MOST, 1);
        x.go(1);
        check.is(x.bits(0), Long.MIN_VALUE + (1L << 31));
        x.go(64);
        check.is(x.bits(0), 0);
        check.is(x.bits(1), Long.MIN_VALUE + (1L << 31));
    }

    private static void many() {
        check.promise("21 many");
        DueWheels x = new DueWheels();
        check.is(x.many(-1, 0), BAD);
        check.is(x.many(6, 0), BAD);
        check.is(x.many(0, -1), BAD);
        check.is(x.many(4, 64), BAD);
        check.is(x.many(5, 1), BAD);
        check.is(x.many(5, -1), BAD);
        check.is(x.many(0, 0), 0);
        x.once(70, 1);
        x.loose(0, 127, 1);
        x.once(128, 1);
        x.once(MOST, 1);
        x.chained(0, 1, 1, 1);
        check.is(x.many(1, 1), 2);
        check.is(x.many(1, 2), 1);
        check.is(x.many(5, 0), 1);
        check.is(x.many(0, 6), 0);
        check.is(x.many(4, 63), 0);
        x.go(64);
        check.is(x.many(1, 1), 0);
        check.is(x.many(0, 6), 1);
        check.is(x.many(0, 63), 1);
    }

    private static void in() {
        check.promise("22 in");
        DueWheels x = new DueWheels();
        x.once(MOST, 1);
        x.once(70, 1);
        x.loose(0, 127, 1);
        x.once(128, 1);
        x.once(64, 1);
        x.shift(1, 1);
        check.is(x.in(-1, 0, 0), BAD);
        check.is(x.in(6, 0, 0), BAD);
        check.is(x.in(0, 64, 0), BAD);
        check.is(x.in(0, -1, 0), BAD);
        check.is(x.in(5, 1, 0), BAD);
        check.is(x.in(1, 1, -1), BAD);
        check.is(x.in(1, 1, 0), 1);
        check.is(x.in(1, 1, 1), 2);
        check.is(x.in(1, 1, 2), 4);
        check.is(x.in(1, 1, 3), NONE);
        check.is(x.in(1, 1, Integer.MAX_VALUE), NONE);
        check.is(x.in(5, 0, 0), 0);
        check.is(x.in(5, 0, 1), NONE);
        check.is(x.in(0, 0, 0), NONE);
    }

    private static void now() {
        check.promise("23 now");
        DueWheels x = new DueWheels();
        check.is(x.now(), 0);
        x.go(17);
        check.is(x.now(), 17);
        x.go(16);
        check.is(x.now(), 17);
        x.go(MOST - 1);
        check.is(x.now(), MOST - 1);
        x.undo();
        check.is(x.now(), 17);
    }

    private static void undo() {
        check.promise("24 undo");
        DueWheels x = new DueWheels();
        check.is(x.undo(), NO);
        x.once(70, 1);
        x.often(65, 5, 3, 2);
        x.go(66);
        x.go(71);
        check.is(x.undo(), 3);
        check.is(x.now(), 66);
        check.went(x, 1, 65);
        check.is(x.count(5), 1);
        check.is(x.count(6), 2);
        check.is(x.lies(0, 2), 1);
        check.is(x.lies(1, 2), 0);
        check.is(x.about(1, 5), 2);
        check.is(x.undo(), 2);
        check.is(x.count(6), 0);
        check.is(x.lies(0, 2), 0);
        check.is(x.about(1, 2), 65);
        check.is(x.undo(), 1);
        check.is(x.about(1, 0), BAD);
        check.is(x.once(5, 9), 1);
        check.is(x.about(1, 8), 1);
        check.is(x.undo(), 1);
        check.is(x.about(1, 0), BAD);
        check.is(x.undo(), 0);
        check.is(x.undo(), NO);
        check.is(x.count(0), 0);
    }

    private static void undoEachChange() {
        check.promise("24 undo of each change");
        for (int change = 0; change < 12; change++) {
            DueWheels x = new DueWheels();
            x.once(20, 1);
            x.often(21, 5, 3, 2);
            x.loose(5, 40, 3);
            x.chained(0, 1, 2, 4);
            x.resting(100, 5, 3, 5);
            x.resting(100, 5, 3, 6);
            x.rest(5);
            x.go(4);
            String before = Told.withoutKept(x, 8);
            long answer = make(x, change);
            check.holds("change " + change + " is not refused", answer > BAD);
            check.holds("change " + change + " changes something", !Told.withoutKept(x, 8).equals(before));
            check.is(x.undo(), 5);
            check.holds("change " + change + " is taken back", Told.withoutKept(x, 8).equals(before));
        }
    }

    private static long make(DueWheels x, int change) {
        switch (change) {
            case 0: return x.once(30, 7);
            case 1: return x.often(30, 1, 2, 7);
            case 2: return x.loose(30, 31, 7);
            case 3: return x.chained(3, 1, 2, 7);
            case 4: return x.resting(30, 1, 2, 7);
            case 5: return x.drop(0);
            case 6: return x.shift(2, 3);
            case 7: return x.chain(3, 1);
            case 8: return x.rest(4);
            case 9: return x.wake(5);
            case 10: return x.settle();
            default: return x.go(50);
        }
    }

    private static void keptAtMost() {
        check.promise("24 the latest 6 are kept");
        DueWheels x = new DueWheels();
        for (int i = 0; i < 10; i++) {
            x.go(i);
            check.is(x.count(7), Math.min(i + 1, 6));
        }
        check.is(x.undo(), 5);
        check.is(x.undo(), 4);
        check.is(x.now(), 7);
        x.go(100);
        check.is(x.count(7), 5);
        for (int left = 4; left >= 0; left--) {
            check.is(x.undo(), left);
        }
        check.is(x.now(), 3);
        check.is(x.undo(), NO);
        check.is(x.now(), 3);
        check.is(x.go(2), BAD);
        check.is(x.undo(), NO);
    }

    private static void count() {
        check.promise("25 count");
        DueWheels x = new DueWheels();
        check.is(x.count(-1), BAD);
        check.is(x.count(8), BAD);
        check.is(x.count(Integer.MIN_VALUE), BAD);
        x.often(64, 1, 3, 1);
        x.chained(0, 100, 9, 1);
        x.chained(1, 100, 9, 1);
        x.resting(7, 7, 7, 1);
        x.rest(3);
        x.loose(1, 500, 1);
        x.drop(9);
        long[] ahead = {5, 2, 2, 1, 0, 0, 0, 6};
        for (int what = 0; what < 8; what++) {
            check.is(x.count(what), ahead[what]);
        }
        x.go(65);
        x.go(66);
        long[] behind = {3, 1, 1, 1, 1, 4, 1, 6};
        for (int what = 0; what < 8; what++) {
            check.is(x.count(what), behind[what]);
        }
    }
}
