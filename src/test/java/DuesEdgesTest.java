/** The boundary cases that paragraph 1 of the terms and promises 1 to 13 name; what they refuse is in RefusedTest. */
public final class DuesEdgesTest {
    private static final long BAD = Check.BAD, FULL = Check.FULL, RING = Check.RING;
    private static final long NONE = Check.NONE, MOST = Check.MOST;
    private static final Check check = new Check();

    public static void main(String[] args) {
        timeIsBelowMost();
        tickMostNeverGoes();
        twoHundredAtATime();
        leastNumber();
        sayIsAnyInt();
        tickIsAboveTime();
        placesInLine();
        placesThatStay();
        oftenTimes();
        oftenAboveMost();
        looseFromFirst();
        looseAtItsTick();
        looseWithoutSpan();
        chainedByOneAndByMost();
        chainedReserve();
        chainedReserveAtTheEnd();
        chainedBehindEachKind();
        longestLine();
        shiftToTheEnds();
        shiftFirstBelowNought();
        restAndWakeAtTheEnds();
        oneThatWaitsOrRestsIsDropped();
        aboutChangesWithTheDue();
        check.end();
    }

    private static void timeIsBelowMost() {
        check.promise("1 TIME is 0 at first, at most MOST - 1");
        DueWheels x = new DueWheels();
        check.is(x.now(), 0);
        check.is(x.go(MOST), BAD);
        check.is(x.now(), 0);
        check.is(x.go(MOST - 1), MOST - 1);
        check.is(x.go(MOST), BAD);
        check.is(x.now(), MOST - 1);
        check.is(x.once(MOST, 1), 0);
        check.is(x.go(MOST - 1), MOST - 1);
        check.went(x);
    }

    private static void tickMostNeverGoes() {
        check.promise("1 what has the TICK MOST never goes");
        DueWheels x = new DueWheels();
        x.once(MOST, 1);
        x.often(MOST, 1, 0, 2);
        x.loose(MOST, MOST, 3);
        x.loose(0, MOST, 4);
        x.chained(0, 1, MOST, 5);
        x.resting(MOST, 1, 1, 6);
        x.drop(0);
        check.is(x.next(), NONE);
        check.is(x.go(MOST - 1), MOST - 1);
        check.went(x);
        check.is(x.count(0), 5);
        check.is(x.count(1), 5);
        check.is(x.next(), NONE);
    }

    private static void twoHundredAtATime() {
        check.promise("1 200 DUES at most at a time");
        DueWheels x = new DueWheels();
        for (int i = 0; i < 199; i++) {
            x.once(10 + i % 2, i);
        }
        check.is(x.chained(198, 1, 1, 0), 199);
        check.is(x.chained(198, 1, 1, 0), FULL);
        check.is(x.count(0), 200);
        check.is(x.about(199, 6), 198);
        check.is(x.about(200, 6), BAD);
        check.is(x.go(10), 10);
        check.is(x.count(0), 100);
        for (int i = 0; i < 100; i++) {
            check.is(x.once(20, 0), i == 99 ? 198 : 2 * i);
        }
        check.is(x.once(20, 0), FULL);
        check.is(x.count(0), 200);
    }

    private static void leastNumber() {
        check.promise("1 a new one has the least number that no DUE has");
        DueWheels x = new DueWheels();
        for (int i = 0; i < 6; i++) {
            check.is(x.once(10 + i, i), i);
        }
        x.drop(5);
        x.drop(3);
        x.go(10);
        check.is(x.once(50, 1), 0);
        check.is(x.once(50, 1), 3);
        check.is(x.once(50, 1), 5);
        check.is(x.once(50, 1), 6);
        for (int i = 0; i < 7; i++) {
            x.drop(i);
        }
        check.is(x.once(50, 1), 0);
        check.is(x.about(1, 0), BAD);
    }

    private static void sayIsAnyInt() {
        check.promise("1 a SAY is any int");
        int[] says = {0, -1, Integer.MIN_VALUE, Integer.MAX_VALUE, (int) BAD, (int) Check.NO, (int) FULL,
            (int) RING, (int) NONE};
        for (int say : says) {
            DueWheels x = new DueWheels();
            check.is(x.once(5, say), 0);
            check.is(x.often(5, 1, 1, say), 1);
            check.is(x.loose(5, 5, say), 2);
            check.is(x.chained(0, 1, 1, say), 3);
            check.is(x.resting(9, 1, 1, say), 4);
            for (int due = 0; due < 5; due++) {
                check.is(x.about(due, 0), due);
                check.is(x.about(due, 1), say);
            }
            check.is(x.count(0), 5);
            check.is(x.drop(4), say);
            x.go(6);
            check.went(x, 0, 5, 1, 5, 2, 5, 3, 6);
            for (int i = 0; i < 4; i++) {
                check.is(x.went(i, 2), say);
            }
        }
    }

    private static void tickIsAboveTime() {
        check.promise("1 a TICK is above TIME");
        for (long time : new long[] {0, 63, 64, (1L << 30) - 1, MOST - 2, MOST - 1}) {
            DueWheels x = new DueWheels();
            x.go(time);
            check.is(x.once(time, 1), BAD);
            check.is(x.often(time, 1, 1, 1), BAD);
            check.is(x.loose(0, time, 1), BAD);
            check.is(x.resting(time, 1, 1, 1), BAD);
            check.is(x.once(time + 1, 1), 0);
            check.is(x.often(time + 1, 1, 1, 1), 1);
            check.is(x.loose(0, time + 1, 1), 2);
            check.is(x.resting(time + 1, 1, 1, 1), 3);
            check.is(x.shift(0, -1), BAD);
            check.is(x.shift(0, 0), time + 1);
        }
    }

    private static void placesInLine() {
        check.promise("1 PLACE IN LINE: given as it is set, and anew as it is shifted or woken");
        DueWheels x = new DueWheels();
        x.once(50, 1);
        x.often(50, 5, 0, 1);
        x.loose(50, 50, 1);
        x.chained(0, 5, 5, 1);
        x.resting(50, 5, 0, 1);
        for (int due = 0; due < 5; due++) {
            check.is(x.about(due, 8), due);
        }
        x.shift(0, 0);
        check.is(x.about(0, 8), 5);
        x.rest(4);
        check.is(x.about(4, 8), 4);
        x.wake(4);
        check.is(x.about(4, 8), 6);
        x.once(0, 1);
        x.shift(0, -50);
        x.shift(3, 1);
        x.wake(4);
        x.once(60, 1);
        check.is(x.about(5, 8), 7);
    }

    private static void placesThatStay() {
        check.promise("2 going does not change PLACES IN LINE, nor does what else gives a TICK");
        DueWheels x = new DueWheels();
        x.once(500, 1);
        x.often(5, 5, 0, 1);
        x.loose(9, 50, 1);
        x.chained(1, 50, 5, 1);
        x.chained(0, 50, 70, 1);
        x.resting(5, 5, 0, 1);
        x.chain(4, 1);
        x.chain(4, 0);
        x.settle();
        x.go(9);
        x.drop(0);
        for (int due = 1; due < 6; due++) {
            check.is(x.about(due, 8), due);
        }
        x.once(90, 1);
        check.is(x.about(0, 8), 6);
    }

    private static void oftenTimes() {
        check.promise("1 OFTEN: no TIMES left, or no end");
        DueWheels x = new DueWheels();
        x.often(1, 1, 1, 1);
        x.often(1, 1, 2, 2);
        x.often(1, 1, 1000000, 3);
        x.often(1, 1, 0, 4);
        x.resting(1, 1, 1, 5);
        x.resting(1, 1, 0, 6);
        x.go(1);
        check.went(x, 0, 1, 1, 1, 2, 1, 3, 1, 4, 1, 5, 1);
        long[] left = {BAD, 1, 999999, 0, BAD, 0};
        for (int due = 0; due < 6; due++) {
            check.is(x.about(due, 5), left[due]);
        }
        x.go(2);
        check.went(x, 1, 2, 2, 2, 3, 2, 5, 2);
        check.is(x.about(1, 5), BAD);
        check.is(x.about(2, 5), 999998);
        check.is(x.about(5, 5), 0);
    }

    private static void oftenAboveMost() {
        check.promise("1 OFTEN: the TICK and its EVERY together are above MOST");
        for (int kind = 1; kind <= 4; kind += 3) {
            DueWheels x = new DueWheels();
            repeated(x, kind, 1, MOST, 0);
            repeated(x, kind, 1, MOST - 1, 0);
            repeated(x, kind, 1, MOST - 2, 2);
            repeated(x, kind, 1, MOST, 1000000);
            repeated(x, kind, MOST - 1, MOST, 0);
            repeated(x, kind, MOST - 1, 1, 7);
            x.go(1);
            check.went(x, 0, 1, 1, 1, 2, 1, 3, 1);
            check.is(x.about(0, 2), BAD);
            check.is(x.about(1, 2), MOST);
            check.is(x.about(2, 2), MOST - 1);
            check.is(x.about(3, 2), BAD);
            x.go(MOST - 1);
            check.went(x, 2, MOST - 1, 4, MOST - 1, 5, MOST - 1);
            check.is(x.count(0), 2);
            check.is(x.about(5, 2), MOST);
            check.is(x.about(5, 5), 6);
        }
    }

    private static void repeated(DueWheels x, int kind, long tick, long every, int times) {
        if (kind == 1) {
            x.often(tick, every, times, 0);
        } else {
            x.resting(tick, every, times, 0);
        }
    }

    private static void looseFromFirst() {
        check.promise("1 LOOSE: the first tick from FIRST on, above TIME");
        DueWheels x = new DueWheels();
        x.often(10, 10, 0, 0);
        x.go(10);
        x.loose(0, 90, 1);
        x.loose(10, 90, 2);
        x.loose(19, 90, 3);
        x.loose(20, 90, 4);
        x.loose(21, 90, 5);
        check.is(x.go(19), 19);
        check.went(x);
        x.go(20);
        check.went(x, 0, 20, 1, 20, 2, 20, 3, 20, 4, 20);
        x.go(29);
        check.went(x);
        x.go(30);
        check.went(x, 0, 30, 5, 30);
    }

    private static void looseAtItsTick() {
        check.promise("1 LOOSE: or else at its TICK");
        DueWheels x = new DueWheels();
        x.loose(1, 9, 0);
        x.loose(1, 10, 1);
        x.loose(9, 11, 2);
        x.loose(11, 12, 3);
        x.loose(1, 12, 4);
        x.once(10, 5);
        x.go(12);
        check.went(x, 0, 9, 5, 10, 1, 10, 2, 10, 4, 10, 3, 12);
        x = new DueWheels();
        x.loose(0, 5, 0);
        x.loose(0, 6, 1);
        x.go(6);
        check.went(x, 0, 5, 1, 6);
    }

    private static void looseWithoutSpan() {
        check.promise("4 loose: FIRST is 0 .. last");
        DueWheels x = new DueWheels();
        x.loose(7, 7, 1);
        x.loose(0, 8, 2);
        check.is(x.about(0, 3), 7);
        check.is(x.about(1, 3), 0);
        x.once(6, 3);
        x.go(8);
        check.went(x, 2, 6, 1, 6, 0, 7);
    }

    private static void chainedByOneAndByMost() {
        check.promise("1 CHAINED: if the tick would be above MOST, it is MOST");
        DueWheels x = new DueWheels();
        x.once(10, 0);
        x.chained(0, 1, 0, 1);
        x.chained(0, MOST - 11, 0, 2);
        x.chained(0, MOST - 10, 0, 3);
        x.chained(0, MOST - 9, 0, 4);
        x.chained(0, MOST, 0, 5);
        x.go(10);
        check.went(x, 0, 10);
        long[] ticks = {BAD, 11, MOST - 1, MOST, MOST, MOST};
        for (int due = 0; due < 6; due++) {
            check.is(x.about(due, 2), ticks[due]);
        }
        x.go(MOST - 1);
        check.went(x, 1, 11, 2, MOST - 1);
        check.is(x.count(0), 3);
    }

    private static void chainedReserve() {
        check.promise("1 CHAINED: its RESERVE, or the next tick, if that is not above TIME");
        DueWheels x = new DueWheels();
        x.once(90, 0);
        long[] reserves = {0, 19, 20, 21, 22, MOST};
        for (long reserve : reserves) {
            x.chained(0, 1, reserve, 1);
        }
        x.go(20);
        x.drop(0);
        long[] ticks = {21, 21, 21, 21, 22, MOST};
        for (int i = 0; i < 6; i++) {
            check.is(x.about(i + 1, 2), ticks[i]);
            check.is(x.about(i + 1, 6), NONE);
        }
        x.go(22);
        check.went(x, 1, 21, 2, 21, 3, 21, 4, 21, 5, 22);
    }

    private static void chainedReserveAtTheEnd() {
        check.promise("7 drop at the last TIME");
        DueWheels x = new DueWheels();
        x.once(MOST, 0);
        x.chained(0, 1, 0, 1);
        x.chained(0, 1, MOST - 1, 2);
        x.chained(0, 1, MOST, 3);
        x.go(MOST - 1);
        check.is(x.drop(0), 0);
        for (int due = 1; due < 4; due++) {
            check.is(x.about(due, 2), MOST);
        }
    }

    private static void chainedBehindEachKind() {
        check.promise("1 CHAINED: as AHEAD goes, whatever its KIND");
        DueWheels x = new DueWheels();
        x.once(10, 0);
        x.often(20, 5, 0, 1);
        x.loose(12, 50, 2);
        x.chained(0, 3, 0, 3);
        x.resting(40, 5, 0, 4);
        for (int due = 0; due < 5; due++) {
            x.chained(due, 100, 0, 5 + due);
        }
        x.go(41);
        long[] ticks = {110, 120, 113, 113, 140};
        for (int due = 0; due < 5; due++) {
            check.is(x.about(5 + due, 2), ticks[due]);
        }
        x.rest(4);
        check.is(x.chained(4, 1, 0, 9), 0);
        x.go(90);
        check.is(x.about(0, 6), 4);
    }

    private static void longestLine() {
        check.promise("9 chain, RING: and so on, as long as a line can be");
        DueWheels x = new DueWheels();
        x.once(10, 0);
        for (int i = 1; i < 200; i++) {
            check.is(x.chained(i - 1, 1, 500 - i, i), i);
        }
        check.is(x.chain(1, 199), RING);
        check.is(x.chain(1, 198), RING);
        check.is(x.chain(199, 199), RING);
        check.is(x.chain(198, 199), RING);
        check.is(x.chain(199, 0), 0);
        check.is(x.chain(1, 199), 0);
        check.is(x.chain(199, 198), RING);
        check.is(x.count(2), 199);
        check.is(x.go(400), 400);
        check.is(x.count(4), 200);
        check.is(x.went(1, 0), 199);
        check.is(x.went(2, 0), 1);
        check.is(x.went(199, 0), 198);
        check.is(x.went(199, 1), 209);
    }

    private static void shiftToTheEnds() {
        check.promise("8 shift: the TICK above TIME, and not above MOST");
        DueWheels x = new DueWheels();
        x.once(1, 0);
        check.is(x.shift(0, MOST - 1), MOST);
        check.is(x.shift(0, MOST), BAD);
        check.is(x.shift(0, -MOST), BAD);
        check.is(x.shift(0, -MOST + 1), 1);
        check.is(x.shift(0, MOST), BAD);
        check.is(x.shift(0, 0), 1);
        check.is(x.about(0, 8), 3);
        x.often(5, 3, 2, 1);
        x.go(5);
        check.is(x.about(1, 2), 8);
        check.is(x.shift(1, -2), 6);
        check.is(x.about(1, 4), 3);
        check.is(x.about(1, 5), 1);
        x.go(9);
        check.went(x, 1, 6);
    }

    private static void shiftFirstBelowNought() {
        check.promise("8 shift: FIRST, too; below 0 it becomes 0");
        DueWheels x = new DueWheels();
        x.loose(10, 100, 0);
        check.is(x.shift(0, -10), 90);
        check.is(x.about(0, 3), 0);
        check.is(x.shift(0, 10), 100);
        check.is(x.about(0, 3), 10);
        check.is(x.shift(0, -9), 91);
        check.is(x.about(0, 3), 1);
        check.is(x.shift(0, -2), 89);
        check.is(x.about(0, 3), 0);
        check.is(x.shift(0, -88), 1);
        check.is(x.about(0, 3), 0);
        check.is(x.shift(0, MOST - 1), MOST);
        check.is(x.about(0, 3), MOST - 1);
        check.is(x.shift(0, -MOST), BAD);
        check.is(x.about(0, 3), MOST - 1);
        x.loose(7, 7, 1);
        check.is(x.shift(1, MOST - 7), MOST);
        check.is(x.about(1, 3), MOST);
    }

    private static void restAndWakeAtTheEnds() {
        check.promise("11 wake: MOST, if that is above MOST");
        DueWheels x = new DueWheels();
        x.resting(MOST, 5, 0, 0);
        x.resting(1, 5, 0, 1);
        check.is(x.rest(0), MOST);
        check.is(x.rest(1), 1);
        check.is(x.wake(0), MOST);
        check.is(x.rest(0), MOST);
        x.go(1);
        check.is(x.wake(0), MOST);
        check.is(x.rest(0), MOST - 1);
        check.is(x.wake(1), 2);
        check.is(x.rest(1), 1);
        x.go(MOST - 1);
        check.is(x.wake(0), MOST);
        check.is(x.wake(1), MOST);
        check.is(x.rest(0), 1);
        check.is(x.about(0, 7), 1);
        check.is(x.count(3), 1);
    }

    private static void oneThatWaitsOrRestsIsDropped() {
        check.promise("7 drop of one without TICK");
        DueWheels x = new DueWheels();
        x.once(10, 0);
        x.chained(0, 1, 30, 1);
        x.chained(1, 1, 40, 2);
        x.resting(20, 1, 1, 3);
        x.chained(3, 1, 50, 4);
        x.rest(3);
        check.is(x.drop(1), 1);
        check.is(x.about(2, 2), 40);
        check.is(x.drop(3), 3);
        check.is(x.about(4, 2), 50);
        check.is(x.count(2), 0);
        check.is(x.count(3), 0);
        x.go(60);
        check.went(x, 0, 10, 2, 40, 4, 50);
    }

    private static void aboutChangesWithTheDue() {
        check.promise("12 about: NONE, and what a number had ahead is gone");
        DueWheels x = new DueWheels();
        x.resting(10, 5, 3, 0);
        x.rest(0);
        x.drop(0);
        x.once(20, 1);
        long[] once = {0, 1, 20, NONE, NONE, NONE, NONE, NONE, 1};
        for (int what = 0; what < 9; what++) {
            check.is(x.about(0, what), once[what]);
        }
        x.loose(3, 30, 2);
        x.chained(1, 4, 5, 3);
        x.drop(1);
        x.often(40, 6, 0, 4);
        long[] often = {1, 4, 40, NONE, 6, 0, NONE, NONE, 4};
        long[] told = {3, 3, 5, NONE, NONE, NONE, NONE, NONE, 3};
        for (int what = 0; what < 9; what++) {
            check.is(x.about(1, what), often[what]);
            check.is(x.about(2, what), told[what]);
        }
    }
}
