/** Promises 1 to 13. */
public final class DuesTest {
    private static final long BAD = Check.BAD, NO = Check.NO, FULL = Check.FULL;
    private static final long RING = Check.RING, NONE = Check.NONE, MOST = Check.MOST;
    private static final Check check = new Check();

    public static void main(String[] args) {
        newObject();
        once();
        often();
        oftenPastTheEnd();
        loose();
        chained();
        chainedPastTheEnd();
        resting();
        fullAndLeastNumbers();
        drop();
        shift();
        chain();
        rest();
        wake();
        about();
        isOf();
        check.end();
    }

    private static void newObject() {
        check.promise("1 new");
        DueWheels x = new DueWheels();
        check.is(x.now(), 0);
        for (int what = 0; what < 8; what++) {
            check.is(x.count(what), 0);
        }
        check.is(x.next(), NONE);
        check.is(x.about(0, 0), BAD);
        check.is(x.went(0, 0), NONE);
        check.is(x.undo(), NO);
        check.is(new DueWheels().once(1, 0), 0);
    }

    private static void once() {
        check.promise("2 once");
        DueWheels x = new DueWheels();
        check.is(x.once(0, 1), BAD);
        check.is(x.once(-1, 1), BAD);
        check.is(x.once(Long.MIN_VALUE, 1), BAD);
        check.is(x.once(MOST + 1, 1), BAD);
        check.is(x.once(Long.MAX_VALUE, 1), BAD);
        check.is(x.count(7), 0);
        check.is(x.once(1, Integer.MIN_VALUE), 0);
        check.is(x.once(MOST, Integer.MAX_VALUE), 1);
        check.is(x.about(0, 1), Integer.MIN_VALUE);
        check.is(x.about(1, 1), Integer.MAX_VALUE);
        check.is(x.about(1, 2), MOST);
        check.is(x.about(1, 8), 1);
        x.go(5);
        check.went(x, 0, 1);
        check.is(x.about(0, 0), BAD);
        check.is(x.once(5, 1), BAD);
        check.is(x.once(6, 1), 0);
        check.is(x.about(0, 8), 2);
    }

    private static void often() {
        check.promise("3 often");
        DueWheels x = new DueWheels();
        check.is(x.often(0, 1, 1, 1), BAD);
        check.is(x.often(MOST + 1, 1, 1, 1), BAD);
        check.is(x.often(1, 0, 1, 1), BAD);
        check.is(x.often(1, MOST + 1, 1, 1), BAD);
        check.is(x.often(1, 1, -1, 1), BAD);
        check.is(x.often(1, 1, 1000001, 1), BAD);
        check.is(x.often(2, 3, 2, 7), 0);
        check.is(x.often(MOST, MOST, 1000000, 7), 1);
        check.is(x.often(4, 10, 0, 7), 2);
        check.is(x.about(1, 5), 1000000);
        check.is(x.about(2, 5), 0);
        x.go(2);
        check.went(x, 0, 2);
        check.is(x.about(0, 2), 5);
        check.is(x.about(0, 5), 1);
        check.is(x.about(0, 8), 0);
        x.go(30);
        check.went(x, 2, 4, 0, 5, 2, 14, 2, 24);
        check.is(x.about(0, 0), BAD);
        check.is(x.about(2, 2), 34);
        check.is(x.about(2, 5), 0);
    }

    private static void oftenPastTheEnd() {
        check.promise("3 often, above MOST");
        DueWheels x = new DueWheels();
        x.often(10, MOST - 10, 0, 1);
        x.often(10, MOST - 9, 0, 1);
        x.often(MOST - 1, 1, 5, 1);
        x.go(10);
        check.went(x, 0, 10, 1, 10);
        check.is(x.about(0, 2), MOST);
        check.is(x.about(1, 0), BAD);
        check.is(x.go(MOST - 1), MOST - 1);
        check.went(x, 2, MOST - 1);
        check.is(x.about(2, 2), MOST);
        check.is(x.about(2, 5), 4);
        check.is(x.count(0), 2);
        check.is(x.next(), NONE);
    }

    private static void loose() {
        check.promise("4 loose");
        DueWheels x = new DueWheels();
        check.is(x.loose(-1, 5, 1), BAD);
        check.is(x.loose(6, 5, 1), BAD);
        check.is(x.loose(0, 0, 1), BAD);
        check.is(x.loose(0, MOST + 1, 1), BAD);
        check.is(x.loose(0, 9, 1), 0);
        check.is(x.loose(20, 20, 1), 1);
        check.is(x.loose(7, MOST, 1), 2);
        check.is(x.loose(6, 30, 1), 3);
        check.is(x.about(1, 3), 20);
        x.go(9);
        check.went(x, 0, 9);
        check.is(x.loose(2, 10, 1), 0);
        x.once(15, 1);
        x.go(30);
        check.went(x, 0, 10, 4, 15, 2, 15, 3, 15, 1, 20);
        check.is(x.count(0), 0);
    }

    private static void chained() {
        check.promise("5 chained");
        DueWheels x = new DueWheels();
        check.is(x.chained(0, 1, 1, 1), BAD);
        x.often(10, 10, 2, 1);
        check.is(x.chained(-1, 1, 1, 1), BAD);
        check.is(x.chained(1, 1, 1, 1), BAD);
        check.is(x.chained(Integer.MAX_VALUE, 1, 1, 1), BAD);
        check.is(x.chained(0, 0, 1, 1), BAD);
        check.is(x.chained(0, MOST + 1, 1, 1), BAD);
        check.is(x.chained(0, 1, -1, 1), BAD);
        check.is(x.chained(0, 1, MOST + 1, 1), BAD);
        check.is(x.chained(0, 5, 100, 1), 1);
        check.is(x.chained(1, 1, 0, 2), 2);
        check.is(x.about(1, 2), NONE);
        check.is(x.about(1, 6), 0);
        check.is(x.about(2, 6), 1);
        x.go(10);
        check.is(x.about(1, 2), 15);
        check.is(x.about(1, 6), NONE);
        check.is(x.about(1, 8), 1);
        check.is(x.about(2, 6), 1);
        x.go(40);
        check.went(x, 1, 15, 2, 16, 0, 20);
        check.is(x.count(0), 0);
    }

    private static void chainedPastTheEnd() {
        check.promise("5 chained, above MOST");
        DueWheels x = new DueWheels();
        x.once(10, 1);
        x.chained(0, MOST, 0, 1);
        x.chained(0, MOST - 10, 0, 1);
        x.chained(0, MOST - 11, 0, 1);
        x.go(10);
        check.is(x.about(1, 2), MOST);
        check.is(x.about(2, 2), MOST);
        check.is(x.about(3, 2), MOST - 1);
    }

    private static void resting() {
        check.promise("6 resting");
        DueWheels x = new DueWheels();
        check.is(x.resting(0, 1, 1, 1), BAD);
        check.is(x.resting(MOST + 1, 1, 1, 1), BAD);
        check.is(x.resting(1, 0, 1, 1), BAD);
        check.is(x.resting(1, MOST + 1, 1, 1), BAD);
        check.is(x.resting(1, 1, -1, 1), BAD);
        check.is(x.resting(1, 1, 1000001, 1), BAD);
        check.is(x.resting(3, 4, 2, 9), 0);
        check.is(x.about(0, 0), 4);
        check.is(x.about(0, 4), 4);
        check.is(x.about(0, 5), 2);
        x.go(20);
        check.went(x, 0, 3, 0, 7);
        check.is(x.about(0, 0), BAD);
    }

    private static void fullAndLeastNumbers() {
        check.promise("2 to 6 FULL, and the least number");
        DueWheels x = new DueWheels();
        for (int i = 0; i < 200; i++) {
            check.is(x.once(1000 + i, i), i);
        }
        check.is(x.once(5, 1), FULL);
        check.is(x.often(5, 1, 1, 1), FULL);
        check.is(x.loose(5, 5, 1), FULL);
        check.is(x.chained(199, 1, 1, 1), FULL);
        check.is(x.resting(5, 1, 1, 1), FULL);
        check.is(x.once(0, 1), BAD);
        check.is(x.often(5, 0, 1, 1), BAD);
        check.is(x.loose(6, 5, 1), BAD);
        check.is(x.chained(200, 1, 1, 1), BAD);
        check.is(x.resting(5, 1, -1, 1), BAD);
        check.is(x.count(7), 6);
        check.is(x.drop(50), 50);
        check.is(x.drop(7), 7);
        check.is(x.drop(199), 199);
        check.is(x.loose(5, 5, 1), 7);
        check.is(x.chained(3, 5, 5, 1), 50);
        check.is(x.resting(5, 5, 5, 1), 199);
        check.is(x.once(5, 1), FULL);
    }

    private static void drop() {
        check.promise("7 drop");
        DueWheels x = new DueWheels();
        check.is(x.drop(0), BAD);
        check.is(x.drop(-1), BAD);
        check.is(x.drop(200), BAD);
        check.is(x.drop(Integer.MIN_VALUE), BAD);
        x.once(50, -7);
        x.chained(0, 3, 30, 1);
        x.chained(0, 3, 20, 2);
        x.chained(0, 3, 21, 3);
        x.chained(1, 3, 99, 4);
        x.go(20);
        check.is(x.drop(0), -7);
        check.is(x.drop(0), BAD);
        check.is(x.about(1, 2), 30);
        check.is(x.about(2, 2), 21);
        check.is(x.about(3, 2), 21);
        check.is(x.about(4, 6), 1);
        check.is(x.about(1, 6), NONE);
        check.is(x.about(1, 8), 1);
        x.go(100);
        check.went(x, 2, 21, 3, 21, 1, 30, 4, 33);
        check.is(x.count(5), 4);
        dropAtTheEnd();
    }

    private static void dropAtTheEnd() {
        DueWheels x = new DueWheels();
        x.once(MOST, 1);
        x.chained(0, 3, 0, 1);
        x.chained(0, 3, MOST, 1);
        x.go(MOST - 1);
        x.drop(0);
        check.is(x.about(1, 2), MOST);
        check.is(x.about(2, 2), MOST);
    }

    private static void shift() {
        check.promise("8 shift");
        DueWheels x = new DueWheels();
        x.once(100, 1);
        x.loose(40, 90, 2);
        x.chained(0, 5, 5, 3);
        x.resting(70, 5, 5, 4);
        x.rest(3);
        x.go(10);
        check.is(x.shift(4, 1), BAD);
        check.is(x.shift(-1, 1), BAD);
        check.is(x.shift(0, MOST + 1), BAD);
        check.is(x.shift(0, -MOST - 1), BAD);
        check.is(x.shift(0, Long.MAX_VALUE), BAD);
        check.is(x.shift(0, Long.MIN_VALUE), BAD);
        check.is(x.shift(0, -90), BAD);
        check.is(x.shift(0, MOST - 99), BAD);
        check.is(x.shift(2, MOST + 1), BAD);
        check.is(x.shift(2, -MOST), NO);
        check.is(x.shift(2, MOST), NO);
        check.is(x.shift(3, 0), NO);
        check.is(x.shift(0, -89), 11);
        check.is(x.about(0, 8), 4);
        check.is(x.shift(0, MOST - 11), MOST);
        check.is(x.shift(0, 0), MOST);
        check.is(x.about(0, 8), 6);
        check.is(x.shift(1, -20), 70);
        check.is(x.about(1, 3), 20);
        check.is(x.shift(1, -30), 40);
        check.is(x.about(1, 3), 0);
        check.is(x.shift(1, 5), 45);
        check.is(x.about(1, 3), 5);
        check.is(x.about(1, 8), 9);
        check.is(x.about(0, 3), NONE);
        shiftedGoesBehind();
    }

    private static void shiftedGoesBehind() {
        DueWheels x = new DueWheels();
        x.once(5, 1);
        x.once(5, 2);
        x.shift(0, 0);
        x.go(5);
        check.went(x, 1, 5, 0, 5);
    }

    private static void chain() {
        check.promise("9 chain");
        DueWheels x = new DueWheels();
        x.once(10, 1);
        x.once(20, 2);
        x.chained(0, 1, 1, 3);
        x.chained(2, 1, 1, 4);
        x.chained(3, 1, 1, 5);
        check.is(x.chain(5, 0), BAD);
        check.is(x.chain(-1, 0), BAD);
        check.is(x.chain(2, 5), BAD);
        check.is(x.chain(0, 5), BAD);
        check.is(x.chain(2, -1), BAD);
        check.is(x.chain(0, 1), NO);
        check.is(x.chain(0, 0), NO);
        check.is(x.chain(0, 2), NO);
        check.is(x.chain(2, 2), RING);
        check.is(x.chain(2, 3), RING);
        check.is(x.chain(2, 4), RING);
        check.is(x.chain(3, 4), RING);
        check.is(x.about(2, 6), 0);
        check.is(x.count(7), 5);
        check.is(x.chain(2, 0), 0);
        check.is(x.count(7), 6);
        check.is(x.chain(4, 2), 0);
        check.is(x.chain(3, 4), 0);
        check.is(x.chain(2, 1), 0);
        check.is(x.about(2, 6), 1);
        check.is(x.about(2, 8), 2);
        x.go(30);
        check.went(x, 0, 10, 1, 20, 2, 21, 4, 22, 3, 23);
        waitsNoMore();
        numberNoughtWaits();
    }

    private static void numberNoughtWaits() {
        DueWheels x = new DueWheels();
        x.once(1, 1);
        x.once(20, 2);
        x.go(1);
        x.chained(1, 5, 90, 3);
        x.chained(0, 5, 90, 4);
        check.is(x.chain(0, 2), RING);
        check.is(x.chain(0, 0), RING);
        x.drop(1);
        check.is(x.about(0, 2), 90);
        x.undo();
        x.go(20);
        check.is(x.about(0, 2), 25);
    }

    private static void waitsNoMore() {
        DueWheels x = new DueWheels();
        x.once(1, 1);
        x.once(20, 1);
        x.chained(0, 5, 5, 1);
        x.go(1);
        check.is(x.chain(2, 1), NO);
    }

    private static void rest() {
        check.promise("10 rest");
        DueWheels x = new DueWheels();
        x.resting(100, 10, 3, 1);
        x.often(20, 10, 3, 2);
        x.chained(0, 4, 200, 3);
        check.is(x.rest(3), BAD);
        check.is(x.rest(-1), BAD);
        check.is(x.rest(1), NO);
        check.is(x.rest(2), NO);
        x.go(15);
        check.is(x.rest(0), 85);
        check.is(x.rest(0), NO);
        check.is(x.about(0, 2), NONE);
        check.is(x.about(0, 7), 85);
        check.is(x.about(0, 5), 3);
        check.is(x.about(0, 8), 0);
        x.go(300);
        check.went(x, 1, 20, 1, 30, 1, 40);
        check.is(x.about(2, 6), 0);
        check.is(x.count(3), 1);
    }

    private static void wake() {
        check.promise("11 wake");
        DueWheels x = new DueWheels();
        x.resting(100, 10, 3, 1);
        x.once(MOST, 2);
        check.is(x.wake(2), BAD);
        check.is(x.wake(-1), BAD);
        check.is(x.wake(0), NO);
        check.is(x.wake(1), NO);
        x.go(15);
        x.rest(0);
        x.go(300);
        check.is(x.wake(0), 385);
        check.is(x.wake(0), NO);
        check.is(x.about(0, 7), NONE);
        check.is(x.about(0, 8), 2);
        x.go(390);
        check.went(x, 0, 385);
        check.is(x.about(0, 5), 2);
        check.is(x.rest(0), 5);
        x.go(MOST - 5);
        check.is(x.wake(0), MOST);
        check.is(x.rest(0), 5);
        x.go(MOST - 4);
        check.is(x.wake(0), MOST);
        check.is(x.rest(0), 4);
    }

    private static void about() {
        check.promise("12 about");
        DueWheels x = new DueWheels();
        x.once(3, 11);
        x.often(4, 5, 6, 12);
        x.loose(2, 7, 13);
        x.chained(1, 8, 9, 14);
        x.resting(5, 6, 0, 15);
        x.rest(4);
        long[][] due = {
            {0, 11, 3, NONE, NONE, NONE, NONE, NONE, 0},
            {1, 12, 4, NONE, 5, 6, NONE, NONE, 1},
            {2, 13, 7, 2, NONE, NONE, NONE, NONE, 2},
            {3, 14, NONE, NONE, NONE, NONE, 1, NONE, 3},
            {4, 15, NONE, NONE, 6, 0, NONE, 5, 4},
        };
        for (int i = 0; i < due.length; i++) {
            for (int what = 0; what < 9; what++) {
                check.is(x.about(i, what), due[i][what]);
            }
            check.is(x.about(i, 9), BAD);
            check.is(x.about(i, -1), BAD);
        }
        check.is(x.about(5, 0), BAD);
        check.is(x.about(-1, 0), BAD);
        check.is(x.about(200, 0), BAD);
        check.is(x.about(Integer.MAX_VALUE, Integer.MIN_VALUE), BAD);
    }

    private static void isOf() {
        check.promise("13 isOf");
        DueWheels x = new DueWheels();
        x.once(3, 11);
        x.often(4, 5, 6, 12);
        x.loose(2, 7, 13);
        x.chained(1, 8, 9, 14);
        x.resting(5, 6, 0, 15);
        for (int due = 0; due < 5; due++) {
            for (int kind = 0; kind < 5; kind++) {
                check.is(x.isOf(due, kind), kind == due || due == 4 && kind == 1 ? 1 : 0);
            }
            check.is(x.isOf(due, -1), BAD);
            check.is(x.isOf(due, 5), BAD);
        }
        check.is(x.isOf(5, 0), BAD);
        check.is(x.isOf(-1, 0), BAD);
    }
}
