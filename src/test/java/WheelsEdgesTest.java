/** The boundary cases that paragraphs 3 and 6 of the terms and promises 19 to 25 name. */
public final class WheelsEdgesTest {
    private static final long BAD = Check.BAD, NO = Check.NO, FULL = Check.FULL;
    private static final long NONE = Check.NONE, MOST = Check.MOST;
    private static final Check check = new Check();

    public static void main(String[] args) {
        turnsFromNought();
        turnsBeginAtMultiples();
        aheadOfANewTurn();
        slotsWrapAround();
        drawer();
        lastTurn();
        noTickNoWheel();
        movesAtTheTickAtWhichItGoes();
        movesOncePerTick();
        looseGoesAheadOfItsTick();
        movesUpToWhatDoesNotFit();
        movesFromNoughtAgain();
        movesThatStay();
        allBits();
        bitsAsTheyAre();
        manyInOneSlot();
        inByNumbers();
        noSlotIsLeftBehind();
        latestSixAreKept();
        refusedAndAskedIsNotKept();
        undoIsNoChange();
        undoOfEmptyChanges();
        undoTakesAllBack();
        undoOfFull();
        undoOfGo();
        countEach();
        check.end();
    }

    /** The ticks that a slot of a wheel stands for; of wheel 5, a turn of wheel 4. */
    private static long slot(int wheel) {
        return 1L << 6 * wheel;
    }

    private static void lies(DueWheels x, int due, long wheel, long slot) {
        check.is(x.lies(due, 0), wheel);
        check.is(x.lies(due, 1), slot);
        check.is(x.many((int) wheel, (int) slot), 1);
        check.is(x.in((int) wheel, (int) slot, 0), due);
        for (int other = 0; other < 5; other++) {
            check.is(x.bits(other), other == wheel ? 1L << slot : 0);
        }
    }

    private static void one(long time, long tick, long wheel, long slot) {
        DueWheels x = new DueWheels();
        x.go(time);
        check.is(x.once(tick, 1), 0);
        lies(x, 0, wheel, slot);
    }

    private static void turnsFromNought() {
        check.promise("3 the lowest wheel such that TIME and its TICK are in one TURN");
        for (int wheel = 0; wheel < 5; wheel++) {
            one(0, slot(wheel), wheel, 1);
            one(0, 2 * slot(wheel) - 1, wheel, 1);
            one(0, slot(wheel + 1) - 1, wheel, 63);
            one(0, slot(wheel + 1), wheel + 1, wheel == 4 ? 0 : 1);
        }
    }

    private static void turnsBeginAtMultiples() {
        check.promise("3 a TURN begins at a multiple of its ticks");
        for (int wheel = 0; wheel < 5; wheel++) {
            long turn = slot(wheel + 1);
            one(turn, turn + slot(wheel), wheel, 1);
            one(turn, 2 * turn - 1, wheel, 63);
            one(turn, 2 * turn, wheel + 1, wheel == 4 ? 0 : 2);
            one(2 * turn - slot(wheel) - 1, 2 * turn - slot(wheel), wheel, 63);
            one(turn + slot(wheel) - 1, 2 * turn - 1, wheel, 63);
        }
    }

    private static void aheadOfANewTurn() {
        check.promise("3 the next tick may be in another TURN");
        for (int wheel = 0; wheel < 5; wheel++) {
            DueWheels x = new DueWheels();
            long turn = slot(wheel + 1);
            x.go(turn - 1);
            x.once(turn, 1);
            lies(x, 0, wheel + 1, wheel == 4 ? 0 : 1);
            x.once(turn + 1, 2);
            x.go(turn);
            check.went(x, 0, turn);
            check.is(x.count(6), 2);
            lies(x, 1, 0, 1);
            check.is(x.lies(1, 2), 1);
        }
    }

    private static void slotsWrapAround() {
        check.promise("3 its SLOT is what is left by 64");
        for (int wheel = 0; wheel < 5; wheel++) {
            long time = 5 * slot(wheel + 1) + 62 * slot(wheel);
            one(time, time + slot(wheel), wheel, 63);
            one(time, time + 2 * slot(wheel), wheel + 1, wheel == 4 ? 0 : 6);
            one(time + slot(wheel), time + 2 * slot(wheel), wheel + 1, wheel == 4 ? 0 : 6);
        }
    }

    private static void drawer() {
        check.promise("3 the DRAWER");
        long turn = slot(5);
        one(0, turn, 5, 0);
        one(0, turn + 63, 5, 0);
        one(0, MOST, 5, 0);
        one(MOST - 1, MOST, 5, 0);
        one(turn - 1, turn, 5, 0);
        one(turn, 2 * turn - 1, 4, 63);
        DueWheels x = new DueWheels();
        x.once(turn, 0);
        x.once(turn + 1, 1);
        x.once(2 * turn - 1, 2);
        x.once(2 * turn, 3);
        check.is(x.many(5, 0), 4);
        x.go(turn);
        check.is(x.many(5, 0), 1);
        check.is(x.in(5, 0, 0), 3);
        check.is(x.in(5, 0, 1), NONE);
        check.is(x.lies(1, 0), 0);
        check.is(x.lies(2, 0), 4);
        check.is(x.count(6), 3);
    }

    private static void lastTurn() {
        check.promise("3 the last TURN ends ahead of MOST");
        DueWheels x = new DueWheels();
        x.go(MOST - slot(5));
        x.once(MOST - 1, 0);
        x.once(MOST, 1);
        check.is(x.lies(0, 0), 4);
        check.is(x.lies(0, 1), 63);
        check.is(x.lies(1, 0), 5);
        x.go(MOST - 2);
        check.is(x.lies(0, 0), 0);
        check.is(x.lies(0, 1), 63);
        check.is(x.lies(0, 2), 4);
        x.go(MOST - 1);
        check.went(x, 0, MOST - 1);
        check.is(x.lies(1, 0), 5);
        check.is(x.lies(1, 1), 0);
        check.is(x.lies(1, 2), 0);
        check.is(x.count(6), 4);
    }

    private static void noTickNoWheel() {
        check.promise("19 lies: NONE without TICK, and 0 MOVES");
        DueWheels x = new DueWheels();
        x.resting(100, 5, 0, 0);
        x.chained(0, 5, 5, 1);
        x.go(64);
        check.is(x.lies(0, 2), 1);
        x.rest(0);
        for (int due = 0; due < 2; due++) {
            check.is(x.lies(due, 0), NONE);
            check.is(x.lies(due, 1), NONE);
            check.is(x.lies(due, 2), 0);
        }
        for (int wheel = 0; wheel < 5; wheel++) {
            check.is(x.bits(wheel), 0);
            check.is(x.many(wheel, 0), 0);
        }
        check.is(x.many(5, 0), 0);
        x.go(MOST - 1);
        check.is(x.lies(0, 2), 0);
        check.is(x.count(6), 1);
    }

    private static void movesAtTheTickAtWhichItGoes() {
        check.promise("3 MOVES at the tick at which it goes");
        for (int wheel = 1; wheel <= 5; wheel++) {
            DueWheels x = new DueWheels();
            x.once(slot(wheel), 0);
            x.go(slot(wheel) - 1);
            check.is(x.count(6), 0);
            check.is(x.lies(0, 0), wheel);
            x.go(slot(wheel));
            check.went(x, 0, slot(wheel));
            check.is(x.count(6), 1);
        }
        DueWheels x = new DueWheels();
        x.once(63, 0);
        x.loose(64, 64, 1);
        x.go(63);
        check.is(x.count(6), 0);
        x.go(64);
        check.is(x.count(6), 1);
        x.once(65, 2);
        x.go(65);
        check.is(x.count(6), 1);
    }

    private static void movesOncePerTick() {
        check.promise("3 MOVES once for each tick at which it does");
        long far = slot(5) + slot(4) + slot(3) + slot(2) + slot(1) + 1;
        long[] ticks = {far, slot(5) + 1, slot(4) + slot(2) + 1, slot(4) + slot(2), MOST - 1, MOST - 64};
        int[] moves = {5, 1, 2, 2, 5, 5};
        for (int i = 0; i < ticks.length; i++) {
            DueWheels x = new DueWheels();
            x.once(ticks[i], 0);
            x.go(ticks[i] - 1);
            long ahead = x.lies(0, 2);
            check.is(ahead, moves[i] - (ticks[i] % 64 == 0 ? 1 : 0));
            check.is(x.count(6), ahead);
            x.go(MOST - 1);
            check.is(x.count(6), moves[i]);
        }
    }

    private static void looseGoesAheadOfItsTick() {
        check.promise("3 MOVES of a LOOSE one that goes ahead of its TICK");
        DueWheels x = new DueWheels();
        x.loose(0, 70, 0);
        x.once(5, 1);
        x.loose(64, 130, 2);
        x.once(64, 3);
        x.loose(64, 100, 4);
        x.go(5);
        check.went(x, 1, 5, 0, 5);
        check.is(x.count(6), 0);
        x.go(64);
        check.went(x, 3, 64, 2, 64, 4, 64);
        check.is(x.count(6), 2);
    }

    private static void movesUpToWhatDoesNotFit() {
        check.promise("3 MOVES, and a tick whose goings do not fit");
        DueWheels x = new DueWheels();
        x.often(1, 1, 299, 0);
        x.once(321, 1);
        x.once(321, 2);
        x.once(384, 3);
        check.is(x.go(400), 320);
        check.is(x.lies(1, 2), 1);
        check.is(x.lies(2, 2), 1);
        check.is(x.lies(3, 2), 0);
        check.is(x.count(6), 4 + 2);
        check.is(x.go(400), 400);
        check.is(x.count(6), 4 + 2 + 1);
    }

    private static void movesFromNoughtAgain() {
        check.promise("3 MOVES are counted from 0 as it gets a TICK");
        DueWheels x = new DueWheels();
        x.once(90, 0);
        x.often(70, 10, 0, 1);
        x.chained(1, 30, 0, 2);
        x.resting(95, 5, 0, 3);
        x.chained(3, 30, 99, 4);
        x.go(64);
        check.is(x.lies(0, 2), 1);
        check.is(x.lies(1, 2), 1);
        check.is(x.lies(3, 2), 1);
        x.shift(0, 1);
        check.is(x.lies(0, 2), 0);
        x.go(70);
        check.is(x.lies(1, 2), 0);
        check.is(x.lies(2, 2), 0);
        x.rest(3);
        x.wake(3);
        check.is(x.lies(3, 2), 0);
        x.drop(3);
        check.is(x.lies(4, 2), 0);
        check.is(x.count(6), 3);
        check.is(x.once(200, 5), 3);
        check.is(x.lies(3, 2), 0);
        x.go(150);
        check.is(x.lies(1, 2), 0);
        check.is(x.count(6), 4);
    }

    private static void movesThatStay() {
        check.promise("3 MOVES stay with the TICK");
        DueWheels x = new DueWheels();
        x.once(100, 0);
        x.loose(80, 99, 1);
        x.go(70);
        x.shift(0, MOST);
        x.settle();
        x.chain(0, 1);
        x.rest(0);
        x.go(70);
        x.go(98);
        check.is(x.lies(0, 2), 1);
        check.is(x.lies(1, 2), 1);
        check.is(x.count(6), 2);
    }

    private static void allBits() {
        check.promise("20 bits of all SLOTS");
        for (int wheel = 0; wheel < 5; wheel++) {
            DueWheels x = new DueWheels();
            check.is(x.bits(wheel), 0);
            for (int s = 1; s < 64; s++) {
                x.once(s * slot(wheel) + slot(wheel) - 1, s);
                check.is(x.bits(wheel), (-1L >>> 63 - s) - 1);
            }
            check.is(x.bits(wheel), -2);
            check.is(x.many(wheel, 0), 0);
            x.go(63 * slot(wheel) - 1);
            check.is(x.bits(wheel), Long.MIN_VALUE);
        }
    }

    private static void bitsAsTheyAre() {
        check.promise("20 bits 31 and more are told as they are");
        for (long bits : new long[] {NO, NONE - 1, 1L << 31, 1L << 32, 3L << 30, Long.MIN_VALUE + 2}) {
            DueWheels x = new DueWheels();
            for (int s = 1; s < 64; s++) {
                if ((bits >>> s & 1) == 1) {
                    x.once(s, s);
                }
            }
            check.is(x.bits(0), bits);
            check.is(x.bits(1), 0);
        }
    }

    private static void manyInOneSlot() {
        check.promise("21 many: 200 in one SLOT");
        DueWheels x = new DueWheels();
        for (int i = 0; i < 200; i++) {
            x.once(64 + i % 64, i);
        }
        check.is(x.many(1, 1), 200);
        check.is(x.in(1, 1, 0), 0);
        check.is(x.in(1, 1, 199), 199);
        check.is(x.in(1, 1, 200), NONE);
        check.is(x.many(1, 0), 0);
        check.is(x.many(1, 2), 0);
        x.go(64);
        check.is(x.many(1, 1), 0);
        check.is(x.many(0, 0), 0);
        check.is(x.many(0, 1), 4);
        check.is(x.in(0, 1, 3), 193);
        check.is(x.many(0, 63), 3);
        check.is(x.count(6), 200);
    }

    private static void inByNumbers() {
        check.promise("22 in: by their numbers");
        DueWheels x = new DueWheels();
        for (int i = 0; i < 5; i++) {
            x.once(130 - i, i);
        }
        check.is(x.many(1, 1), 2);
        check.is(x.in(1, 1, 0), 3);
        check.is(x.in(1, 2, 2), 2);
        check.is(x.in(1, 2, 3), NONE);
        x.drop(1);
        x.shift(0, 1);
        x.shift(4, 30);
        check.is(x.once(150, 9), 1);
        check.is(x.many(1, 2), 4);
        long[] dues = {0, 1, 2, 4, NONE};
        for (int i = 0; i < 5; i++) {
            check.is(x.in(1, 2, i), dues[i]);
        }
        check.is(x.in(1, 2, Integer.MAX_VALUE), NONE);
        check.is(x.in(1, 3, 0), NONE);
        check.is(x.in(5, 0, 0), NONE);
    }

    private static void noSlotIsLeftBehind() {
        check.promise("19 to 22 the SLOT it lay in is empty as it moves, goes, rests, or is dropped");
        DueWheels x = new DueWheels();
        x.resting(70, 5, 0, 0);
        x.once(130, 1);
        x.rest(0);
        check.is(x.bits(1), 4);
        x.drop(1);
        check.is(x.bits(1), 0);
        x.wake(0);
        check.is(x.bits(1), 2);
        x.shift(0, 64);
        check.is(x.bits(1), 4);
        x.go(128);
        check.is(x.bits(1), 0);
        check.is(x.bits(0), 1 << 6);
        x.go(134);
        check.is(x.bits(0), 1 << 11);
    }

    private static void latestSixAreKept() {
        check.promise("6 the latest 6 are kept");
        for (int changes = 0; changes <= 20; changes++) {
            DueWheels x = new DueWheels();
            for (int i = 0; i < changes; i++) {
                x.once(5 + i, i);
            }
            int kept = Math.min(changes, 6);
            check.is(x.count(7), kept);
            for (int left = kept - 1; left >= 0; left--) {
                check.is(x.undo(), left);
                check.is(x.count(7), left);
                check.is(x.count(0), changes - kept + left);
            }
            check.is(x.undo(), NO);
            check.is(x.count(0), changes - kept);
            x.once(90, 1);
            check.is(x.count(7), 1);
            check.is(x.undo(), 0);
            check.is(x.count(0), changes - kept);
        }
    }

    private static void refusedAndAskedIsNotKept() {
        check.promise("6 what is refused, and what asks, is no change");
        DueWheels x = new DueWheels();
        x.once(50, 7);
        x.once(0, 1);
        x.chain(0, 0);
        x.rest(0);
        x.wake(0);
        x.shift(0, -50);
        x.drop(1);
        x.go(-1);
        x.about(0, 0);
        x.isOf(0, 0);
        x.went(0, 0);
        x.next();
        x.fewest();
        x.lies(0, 0);
        x.bits(0);
        x.many(0, 0);
        x.in(0, 0, 0);
        x.now();
        x.count(7);
        check.is(x.count(7), 1);
        check.is(x.undo(), 0);
        check.is(x.count(0), 0);
        check.is(x.undo(), NO);
    }

    private static void undoIsNoChange() {
        check.promise("6 one that is taken back is kept no more");
        DueWheels x = new DueWheels();
        x.go(1);
        x.go(2);
        x.go(3);
        check.is(x.undo(), 2);
        check.is(x.now(), 2);
        check.is(x.undo(), 1);
        check.is(x.now(), 1);
        x.go(9);
        check.is(x.count(7), 2);
        check.is(x.undo(), 1);
        check.is(x.now(), 1);
        check.is(x.undo(), 0);
        check.is(x.now(), 0);
        check.is(x.undo(), NO);
    }

    private static void undoOfEmptyChanges() {
        check.promise("6 a change is kept, even where it leaves all as it was");
        DueWheels x = new DueWheels();
        x.once(50, 0);
        x.chained(0, 5, 5, 1);
        x.go(0);
        x.settle();
        x.chain(1, 0);
        x.shift(0, 0);
        check.is(x.count(7), 6);
        check.is(x.about(0, 8), 2);
        check.is(x.undo(), 5);
        check.is(x.about(0, 8), 0);
        check.is(x.undo(), 4);
        check.is(x.undo(), 3);
        check.is(x.undo(), 2);
        check.is(x.count(0), 2);
        check.is(x.undo(), 1);
        check.is(x.count(0), 1);
    }

    private static void undoTakesAllBack() {
        check.promise("6 all is as it was, change by change");
        for (int left = 5; left >= 0; left--) {
            DueWheels x = changed(6);
            for (int kept = 5; kept >= left; kept--) {
                check.is(x.undo(), kept);
            }
            check.holds("with " + left + " changes left",
                    Told.withoutKept(x, 5).equals(Told.withoutKept(changed(left), 5)));
            check.is(x.undo(), left == 0 ? NO : left - 1);
        }
    }

    private static DueWheels changed(int changes) {
        DueWheels x = new DueWheels();
        x.loose(30, 200, 0);
        x.often(66, 7, 3, 1);
        x.chained(1, 5, 99, 2);
        x.resting(150, 9, 0, 3);
        x.go(20);
        for (int change = 0; change < changes; change++) {
            make(x, change);
        }
        return x;
    }

    private static void make(DueWheels x, int change) {
        switch (change) {
            case 0: check.is(x.go(67), 67); break;
            case 1: check.is(x.rest(3), 83); break;
            case 2: check.is(x.drop(1), 1); break;
            case 3: check.is(x.once(160, 4), 0); break;
            case 4: check.is(x.wake(3), 150); break;
            default: check.is(x.go(155), 155);
        }
    }

    private static void undoOfFull() {
        check.promise("24 undo of the 200th DUE, and of a drop among 200");
        DueWheels x = new DueWheels();
        for (int i = 0; i < 200; i++) {
            x.once(10 + i, i);
        }
        check.is(x.undo(), 5);
        check.is(x.about(199, 0), BAD);
        check.is(x.loose(0, 500, -1), 199);
        check.is(x.about(199, 8), 199);
        check.is(x.once(10, 1), FULL);
        x.drop(3);
        x.undo();
        check.is(x.about(3, 2), 13);
        check.is(x.once(10, 1), FULL);
        check.is(x.go(300), 300);
        check.is(x.count(4), 200);
        check.is(x.undo(), 5);
        check.is(x.count(0), 200);
        check.is(x.count(4), 0);
        check.is(x.about(199, 0), 2);
        check.is(x.about(198, 8), 198);
    }

    private static void undoOfGo() {
        check.promise("24 undo of go(): WHAT WENT is as it was");
        DueWheels x = new DueWheels();
        x.often(1, 1, 0, 0);
        x.go(250);
        x.go(MOST - 1);
        check.is(x.now(), 550);
        check.is(x.count(5), 550);
        x.go(550);
        check.is(x.count(4), 0);
        x.undo();
        check.is(x.count(4), 300);
        check.is(x.went(0, 1), 251);
        check.is(x.went(299, 1), 550);
        x.undo();
        check.is(x.now(), 250);
        check.is(x.count(4), 250);
        check.is(x.count(5), 250);
        check.is(x.count(6), 3);
        check.is(x.went(249, 1), 250);
        check.is(x.went(250, 1), NONE);
        x.undo();
        check.is(x.count(4), 0);
        check.is(x.count(6), 0);
        check.is(x.about(0, 2), 1);
    }

    private static void countEach() {
        check.promise("25 count");
        DueWheels x = new DueWheels();
        counts(x, 0, 0, 0, 0, 0, 0, 0, 0);
        x.resting(64, 1, 2, 0);
        counts(x, 1, 1, 0, 0, 0, 0, 0, 1);
        x.rest(0);
        counts(x, 1, 0, 0, 1, 0, 0, 0, 2);
        x.chained(0, 1, 1, 1);
        counts(x, 2, 0, 1, 1, 0, 0, 0, 3);
        x.wake(0);
        counts(x, 2, 1, 1, 0, 0, 0, 0, 4);
        x.go(64);
        counts(x, 2, 2, 0, 0, 1, 1, 1, 5);
        x.go(65);
        counts(x, 0, 0, 0, 0, 2, 3, 1, 6);
        x.go(65);
        counts(x, 0, 0, 0, 0, 0, 3, 1, 6);
        x.undo();
        counts(x, 0, 0, 0, 0, 2, 3, 1, 5);
    }

    private static void counts(DueWheels x, long... want) {
        for (int what = 0; what < 8; what++) {
            check.is(x.count(what), want[what]);
        }
    }
}
