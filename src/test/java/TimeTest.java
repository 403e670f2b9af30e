/** Promises 14 to 18. */
public final class TimeTest {
    private static final long BAD = Check.BAD, NONE = Check.NONE, MOST = Check.MOST;
    private static final Check check = new Check();

    public static void main(String[] args) {
        go();
        orderAtOneTick();
        whoIsToldDoesNotGoAtTheSameTick();
        looseGoesWithTheFirstThatIsNotLoose();
        rowIsFull();
        manyAtOneTick();
        went();
        next();
        fewest();
        settle();
        settleByLine();
        settleAboveTime();
        check.end();
    }

    private static void go() {
        check.promise("14 go");
        DueWheels x = new DueWheels();
        check.is(x.go(-1), BAD);
        check.is(x.go(Long.MIN_VALUE), BAD);
        check.is(x.go(MOST), BAD);
        check.is(x.go(Long.MAX_VALUE), BAD);
        x.once(7, 1);
        check.is(x.go(0), 0);
        check.is(x.count(7), 2);
        check.is(x.go(6), 6);
        check.went(x);
        check.is(x.go(7), 7);
        check.went(x, 0, 7);
        check.is(x.go(6), BAD);
        check.went(x, 0, 7);
        check.is(x.go(7), 7);
        check.went(x);
        check.is(x.count(5), 1);
        check.is(x.go(MOST - 1), MOST - 1);
        check.is(x.go(MOST - 1), MOST - 1);
        check.is(x.go(MOST - 2), BAD);
    }

    private static void orderAtOneTick() {
        check.promise("14 the order at a tick");
        DueWheels x = new DueWheels();
        x.loose(0, 10, 0);
        x.resting(10, 5, 1, 1);
        x.once(5, 2);
        x.chained(2, 5, 0, 3);
        x.chained(2, 5, 0, 4);
        x.often(10, 1, 1, 5);
        x.once(10, 6);
        x.loose(8, 20, 7);
        x.resting(10, 5, 1, 8);
        x.often(10, 1, 1, 9);
        x.once(10, 10);
        x.loose(11, 12, 11);
        x.shift(1, 0);
        x.shift(5, 0);
        x.shift(6, 0);
        x.shift(7, 0);
        x.go(10);
        check.went(x, 2, 5, 0, 5, 10, 10, 6, 10, 9, 10, 5, 10, 3, 10, 4, 10, 8, 10, 1, 10, 7, 10);
        x.go(13);
        check.went(x, 11, 12);
    }

    private static void whoIsToldDoesNotGoAtTheSameTick() {
        check.promise("14 who is told goes later");
        DueWheels x = new DueWheels();
        x.loose(1, 4, 1);
        x.chained(0, 1, 0, 2);
        x.chained(1, 1, 0, 3);
        x.chained(1, 2, 0, 4);
        x.go(10);
        check.went(x, 0, 4, 1, 5, 2, 6, 3, 7);
    }

    private static void looseGoesWithTheFirstThatIsNotLoose() {
        check.promise("14 loose ones");
        DueWheels x = new DueWheels();
        x.loose(10, 30, 0);
        x.loose(5, 12, 1);
        x.often(8, 8, 0, 2);
        x.loose(0, 40, 3);
        x.loose(17, 18, 4);
        x.loose(17, 50, 5);
        x.go(20);
        check.went(x, 2, 8, 1, 8, 3, 8, 2, 16, 0, 16, 4, 18);
        check.is(x.about(5, 2), 50);
        x.go(30);
        check.went(x, 2, 24, 5, 24);
        x.loose(32, 60, 0);
        x.loose(33, 60, 1);
        x.go(32);
        check.went(x, 2, 32, 0, 32);
    }

    private static void rowIsFull() {
        check.promise("14 the row is full");
        DueWheels x = new DueWheels();
        x.often(1, 1, 0, 1);
        x.once(350, 2);
        check.is(x.go(MOST - 1), 300);
        check.is(x.count(4), 300);
        check.is(x.about(0, 2), 301);
        check.is(x.count(6), 4);
        check.is(x.go(MOST - 1), 599);
        check.is(x.count(4), 300);
        check.is(x.went(49, 0), 1);
        check.is(x.went(299, 1), 599);
        check.is(x.count(5), 600);
        x = new DueWheels();
        x.often(1, 1, 300, 1);
        check.is(x.go(1000), 1000);
        check.is(x.count(4), 300);
    }

    private static void manyAtOneTick() {
        check.promise("14 what does not fit");
        DueWheels x = new DueWheels();
        for (int i = 0; i < 199; i++) {
            x.often(100, 64, 2, i);
        }
        x.loose(0, 900, 199);
        check.is(x.go(1000), 163);
        check.is(x.count(4), 200);
        check.is(x.went(199, 0), 199);
        check.is(x.about(0, 5), 1);
        check.is(x.about(198, 2), 164);
        check.is(x.count(6), 199 + 199);
        check.is(x.go(1000), 1000);
        check.is(x.count(4), 199);
        check.is(x.count(0), 0);
    }

    private static void went() {
        check.promise("15 went");
        DueWheels x = new DueWheels();
        check.is(x.went(0, 0), NONE);
        check.is(x.went(0, -1), BAD);
        check.is(x.went(0, 3), BAD);
        check.is(x.went(-1, 0), BAD);
        x.once(2, Integer.MIN_VALUE);
        x.once(9, 5);
        x.go(9);
        check.is(x.went(0, 0), 0);
        check.is(x.went(0, 1), 2);
        check.is(x.went(0, 2), Integer.MIN_VALUE);
        check.is(x.went(1, 0), 1);
        check.is(x.went(1, 1), 9);
        check.is(x.went(1, 2), 5);
        check.is(x.went(2, 2), NONE);
        check.is(x.went(300, 0), NONE);
        check.is(x.went(Integer.MAX_VALUE, 0), NONE);
        check.is(x.went(2, 3), BAD);
        check.is(x.went(Integer.MIN_VALUE, 0), BAD);
        x.once(20, 1);
        check.is(x.went(1, 2), 5);
        x.go(10);
        check.is(x.went(0, 0), NONE);
    }

    private static void next() {
        check.promise("16 next");
        DueWheels x = new DueWheels();
        check.is(x.next(), NONE);
        x.once(MOST, 1);
        check.is(x.next(), NONE);
        x.loose(3, 50, 2);
        check.is(x.next(), 50);
        x.resting(40, 1, 1, 3);
        check.is(x.next(), 40);
        x.rest(2);
        check.is(x.next(), 50);
        x.chained(2, 1, 1, 4);
        check.is(x.next(), 50);
        x.once(MOST - 1, 5);
        x.drop(1);
        check.is(x.next(), MOST - 1);
        check.is(x.count(0), 4);
    }

    private static void fewest() {
        check.promise("17 fewest");
        DueWheels x = new DueWheels();
        check.is(x.fewest(), 0);
        x.once(7, 1);
        check.is(x.fewest(), 0);
        x.loose(1, 5, 1);
        x.loose(3, 9, 1);
        x.loose(8, 20, 1);
        x.loose(15, 30, 1);
        x.loose(20, 20, 1);
        x.loose(21, MOST, 1);
        check.is(x.fewest(), 3);
        check.is(x.about(2, 2), 9);
        check.is(x.about(4, 2), 30);
        check.is(x.count(7), 6);
        x.once(MOST, 1);
        check.is(x.fewest(), 2);
        x.often(16, 1, 0, 1);
        check.is(x.fewest(), 2);
        x.drop(5);
        check.is(x.fewest(), 1);
        for (int due = 0; due < 9; due++) {
            x.drop(due);
        }
        x.loose(1, MOST, 1);
        check.is(x.fewest(), 1);
    }

    private static void settle() {
        check.promise("18 settle");
        DueWheels x = new DueWheels();
        check.is(x.settle(), 0);
        check.is(x.count(7), 1);
        x.loose(2, 100, 1);
        x.loose(90, 200, 2);
        x.loose(101, 300, 3);
        x.once(150, 4);
        x.once(160, 5);
        x.resting(120, 1, 1, 6);
        x.rest(5);
        x.go(64);
        check.is(x.lies(1, 2), 0);
        check.is(x.lies(0, 2), 1);
        check.is(x.settle(), 2);
        check.is(x.about(0, 2), 100);
        check.is(x.about(1, 2), 100);
        check.is(x.about(2, 2), 150);
        check.is(x.about(1, 3), 90);
        check.is(x.about(1, 8), 1);
        check.is(x.lies(0, 2), 1);
        check.is(x.lies(1, 2), 0);
        check.is(x.lies(1, 0), 0);
        check.is(x.settle(), 0);
        x.go(200);
        check.went(x, 0, 100, 1, 100, 3, 150, 2, 150, 4, 160);
    }

    private static void settleByLine() {
        check.promise("18 settle, by ticks");
        DueWheels x = new DueWheels();
        x.loose(1, 30, 0);
        x.loose(12, 20, 1);
        x.loose(1, 10, 2);
        check.is(x.fewest(), 2);
        check.is(x.settle(), 1);
        check.is(x.about(0, 2), 10);
        check.is(x.about(1, 2), 20);
        check.is(x.about(2, 2), 10);
    }

    private static void settleAboveTime() {
        check.promise("18 settle, above TIME");
        DueWheels x = new DueWheels();
        x.often(5, 5, 0, 1);
        x.go(5);
        x.loose(0, 20, 2);
        x.loose(10, 10, 3);
        check.is(x.fewest(), 0);
        check.is(x.settle(), 1);
        check.is(x.about(1, 2), 10);
    }
}
