/** The boundary cases that paragraphs 2, 4 and 5 of the terms and promises 14 to 18 name. */
public final class TimeEdgesTest {
    private static final long BAD = Check.BAD, NONE = Check.NONE, MOST = Check.MOST;
    private static final Check check = new Check();

    public static void main(String[] args) {
        onlyLooseAtATick();
        foundAheadOfAll();
        shiftedAndWokenGoLast();
        placesInAnyOrder();
        twoHundredAtOneTick();
        goNowhere();
        goFarAtOnce();
        rowJustFits();
        rowIsOneShort();
        manyJustFit();
        manyAreOneTooMany();
        looseOnesDoNotFit();
        nothingOfThatTickIsDone();
        whatDoesNotFitAtTheNextTick();
        rowBegunAnew();
        wentAtTheEndOfTheRow();
        nextAtTheEnds();
        spanFromFirst();
        spanUpToItsTick();
        leastFastTick();
        fastAtMost();
        onlyWhatHasATickIsFast();
        nothingToSettle();
        settleTwoHundred();
        settledGotAnew();
        check.end();
    }

    private static void onlyLooseAtATick() {
        check.promise("2 a tick of LOOSE ones alone");
        DueWheels x = new DueWheels();
        x.loose(1, 8, 0);
        x.loose(1, 8, 1);
        x.loose(1, 9, 2);
        x.shift(0, 0);
        x.go(8);
        check.went(x, 1, 8, 0, 8);
        check.is(x.next(), 9);
    }

    private static void foundAheadOfAll() {
        check.promise("2 what goes is found ahead of all");
        DueWheels x = new DueWheels();
        x.often(5, 1, 2, 0);
        x.chained(0, 1, 0, 1);
        x.chained(1, 1, 0, 2);
        x.loose(6, 6, 3);
        x.chained(3, 1, 0, 4);
        x.go(5);
        check.went(x, 0, 5);
        check.is(x.about(1, 2), 6);
        check.is(x.about(2, 2), NONE);
        x.go(6);
        check.went(x, 0, 6, 1, 6, 3, 6);
        check.is(x.about(2, 2), 7);
        check.is(x.about(4, 2), 7);
        x.go(7);
        check.went(x, 2, 7, 4, 7);
    }

    private static void shiftedAndWokenGoLast() {
        check.promise("2 of one KIND by their PLACES IN LINE");
        DueWheels x = new DueWheels();
        x.resting(10, 5, 1, 0);
        x.resting(10, 5, 1, 1);
        x.resting(10, 5, 1, 2);
        x.often(10, 5, 1, 3);
        x.often(9, 5, 1, 4);
        x.rest(0);
        x.wake(0);
        x.shift(1, 0);
        x.shift(4, 1);
        x.shift(3, 0);
        x.go(10);
        check.went(x, 4, 10, 3, 10, 2, 10, 0, 10, 1, 10);
    }

    private static void placesInAnyOrder() {
        check.promise("2 PLACES IN LINE, whatever the numbers");
        int[] line = {5, 2, 7, 0, 3, 1, 6, 4};
        for (int kind = 0; kind < 5; kind++) {
            DueWheels x = new DueWheels();
            x.once(10, -1);
            for (int due = 0; due < 8; due++) {
                set(x, kind, 30);
            }
            x.go(10);
            for (int due : line) {
                check.is(x.shift(due + 1, 0), 30);
            }
            x.go(30);
            for (int i = 0; i < 8; i++) {
                check.is(x.went(i, 0), line[i] + 1);
            }
        }
    }

    private static void set(DueWheels x, int kind, long tick) {
        switch (kind) {
            case 0: x.once(tick, 0); break;
            case 1: x.often(tick, 1, 1, 0); break;
            case 2: x.loose(tick, tick, 0); break;
            case 3: x.chained(0, tick - 10, 0, 0); break;
            default: x.resting(tick, 1, 1, 0);
        }
    }

    private static void twoHundredAtOneTick() {
        check.promise("4 200 goings at one tick");
        for (int kind = 0; kind < 5; kind++) {
            DueWheels x = new DueWheels();
            x.once(10, -1);
            for (int due = 1; due < 200; due++) {
                set(x, kind, 30);
            }
            x.go(10);
            set(x, kind == 3 ? 0 : kind, 30);
            check.is(x.count(0), 200);
            check.is(x.next(), 30);
            check.is(x.go(30), 30);
            check.is(x.count(4), 200);
            check.is(x.went(199, 1), 30);
            check.is(x.went(200, 1), NONE);
            check.is(x.count(0), 0);
        }
    }

    private static void goNowhere() {
        check.promise("14 go to TIME itself");
        DueWheels x = new DueWheels();
        check.is(x.go(0), 0);
        check.is(x.count(7), 1);
        x.once(1, 0);
        check.is(x.go(0), 0);
        check.went(x);
        check.is(x.go(1), 1);
        check.went(x, 0, 1);
        check.is(x.go(1), 1);
        check.went(x);
        check.is(x.count(5), 1);
        check.is(x.count(7), 5);
        check.is(x.go(0), BAD);
        check.is(x.count(7), 5);
    }

    private static void goFarAtOnce() {
        check.promise("14 go, however far at once");
        DueWheels x = new DueWheels();
        x.once(1, 0);
        x.often(MOST - 3, 1, 0, 1);
        x.loose(2, MOST - 1, 2);
        x.chained(0, MOST - 2, 0, 3);
        check.is(x.go(MOST - 1), MOST - 1);
        check.went(x, 0, 1, 1, MOST - 3, 2, MOST - 3, 1, MOST - 2, 1, MOST - 1, 3, MOST - 1);
        check.is(x.about(1, 2), MOST);
        check.is(x.count(0), 1);
    }

    private static void rowJustFits() {
        check.promise("4 a row of 300 goings");
        DueWheels x = new DueWheels();
        x.often(1, 1, 299, 0);
        x.once(400, 1);
        check.is(x.go(500), 500);
        check.is(x.count(4), 300);
        check.is(x.went(299, 0), 1);
        check.is(x.went(299, 1), 400);
        check.is(x.count(0), 0);
        x = new DueWheels();
        x.often(1, 1, 298, 0);
        x.once(400, 1);
        x.loose(1, 400, 2);
        x.shift(2, 0);
        check.is(x.go(500), 500);
        check.is(x.count(4), 300);
        check.is(x.went(0, 0), 0);
        check.is(x.went(1, 0), 2);
        check.is(x.went(299, 0), 1);
    }

    private static void rowIsOneShort() {
        check.promise("4 one going more than 300");
        DueWheels x = new DueWheels();
        x.often(1, 1, 300, 0);
        x.once(400, 1);
        check.is(x.go(500), 399);
        check.is(x.now(), 399);
        check.is(x.count(4), 300);
        check.is(x.went(299, 1), 300);
        check.is(x.about(1, 2), 400);
        check.is(x.next(), 400);
        check.is(x.go(500), 500);
        check.went(x, 1, 400);
        x = new DueWheels();
        x.often(1, 1, 299, 0);
        x.once(400, 1);
        x.once(400, 2);
        check.is(x.go(500), 399);
        check.is(x.count(4), 299);
        check.is(x.count(5), 299);
    }

    private static void manyJustFit() {
        check.promise("4 those of a tick fit behind those ahead");
        DueWheels x = new DueWheels();
        for (int i = 0; i < 199; i++) {
            x.once(500, i);
        }
        x.often(1, 1, 101, 199);
        check.is(x.go(600), 600);
        check.is(x.count(4), 300);
        check.is(x.went(100, 1), 101);
        check.is(x.went(101, 1), 500);
        check.is(x.went(299, 0), 198);
        check.is(x.count(0), 0);
    }

    private static void manyAreOneTooMany() {
        check.promise("4 those of a tick do not fit");
        DueWheels x = new DueWheels();
        for (int i = 0; i < 199; i++) {
            x.once(500, i);
        }
        x.often(1, 1, 102, 199);
        check.is(x.go(600), 499);
        check.is(x.count(4), 102);
        check.is(x.count(0), 199);
        check.is(x.go(499), 499);
        check.is(x.count(4), 0);
        check.is(x.go(500), 500);
        check.is(x.count(4), 199);
        check.is(x.count(5), 301);
    }

    private static void looseOnesDoNotFit() {
        check.promise("4 LOOSE ones are among those of a tick");
        DueWheels x = new DueWheels();
        x.often(1, 1, 299, 0);
        x.once(400, 1);
        x.loose(350, 450, 2);
        check.is(x.go(500), 399);
        check.is(x.count(4), 299);
        check.is(x.count(0), 2);
        check.is(x.go(500), 500);
        check.went(x, 1, 400, 2, 400);
    }

    private static void nothingOfThatTickIsDone() {
        check.promise("4 nothing of that tick is done");
        DueWheels x = new DueWheels();
        x.often(1, 1, 299, 0);
        x.often(320, 7, 5, 1);
        x.resting(320, 7, 5, 2);
        x.chained(1, 9, 9, 3);
        check.is(x.go(400), 319);
        check.is(x.about(1, 2), 320);
        check.is(x.about(1, 5), 5);
        check.is(x.about(2, 5), 5);
        check.is(x.about(3, 6), 1);
        check.is(x.lies(1, 0), 1);
        check.is(x.lies(1, 2), 0);
        check.is(x.count(5), 299);
        check.is(x.rest(2), 1);
    }

    private static void whatDoesNotFitAtTheNextTick() {
        check.promise("4 TIME stays");
        DueWheels x = new DueWheels();
        x.often(1, 1, 0, 0);
        check.is(x.go(300), 300);
        check.is(x.count(4), 300);
        check.is(x.go(600), 600);
        check.is(x.count(4), 300);
        check.is(x.go(901), 900);
        check.is(x.about(0, 2), 901);
        check.is(x.go(901), 901);
        check.went(x, 0, 901);
        x = new DueWheels();
        x.often(MOST - 301, 1, 0, 0);
        check.is(x.go(MOST - 1), MOST - 2);
        check.is(x.count(4), 300);
        check.is(x.go(MOST - 1), MOST - 1);
        check.went(x, 0, MOST - 1);
        check.is(x.about(0, 2), MOST);
    }

    private static void rowBegunAnew() {
        check.promise("4 WHAT WENT is begun anew by each go()");
        DueWheels x = new DueWheels();
        x.once(5, 50);
        x.often(5, 90, 0, 51);
        x.go(5);
        x.go(4);
        x.go(MOST);
        x.once(70, 52);
        x.settle();
        x.drop(1);
        check.went(x, 0, 5, 1, 5);
        check.is(x.went(1, 2), 51);
        x.go(6);
        check.went(x);
        check.is(x.went(0, 0), NONE);
        check.is(x.count(5), 2);
        x.undo();
        check.went(x, 0, 5, 1, 5);
    }

    private static void wentAtTheEndOfTheRow() {
        check.promise("15 went: there are not so many");
        DueWheels x = new DueWheels();
        x.often(1, 1, 0, -9);
        x.go(MOST - 1);
        for (int what = 0; what < 3; what++) {
            check.is(x.went(300, what), NONE);
            check.is(x.went(Integer.MAX_VALUE, what), NONE);
        }
        check.is(x.went(299, 0), 0);
        check.is(x.went(299, 1), 300);
        check.is(x.went(299, 2), -9);
        check.is(x.went(300, 3), BAD);
        x.go(301);
        check.is(x.went(0, 1), 301);
        check.is(x.went(1, 1), NONE);
        check.is(x.went(299, 1), NONE);
    }

    private static void nextAtTheEnds() {
        check.promise("16 next");
        DueWheels x = new DueWheels();
        x.once(1, 0);
        check.is(x.next(), 1);
        x.go(1);
        check.is(x.next(), NONE);
        x.loose(0, MOST - 1, 0);
        check.is(x.next(), MOST - 1);
        x.once(MOST, 1);
        check.is(x.next(), MOST - 1);
        x.loose(2, 9, 2);
        x.once(10, 3);
        check.is(x.next(), 9);
        x.shift(3, -2);
        check.is(x.next(), 8);
        x.go(8);
        check.went(x, 3, 8, 0, 8, 2, 8);
        check.is(x.next(), NONE);
        x.go(MOST - 2);
        x.shift(1, -1);
        check.is(x.next(), MOST - 1);
        x.go(MOST - 1);
        check.went(x, 1, MOST - 1);
        check.is(x.next(), NONE);
    }

    /** Whether a fast tick serves a loose one of a span, as fewest() and settle() tell it. */
    private static void settledTo(long first, long last, long fast, long tick) {
        DueWheels x = new DueWheels();
        x.loose(first, last, 0);
        x.once(fast, 1);
        check.is(x.fewest(), fast >= first && fast <= last ? 0 : 1);
        check.is(x.settle(), tick == last ? 0 : 1);
        check.is(x.about(0, 2), tick);
        check.is(x.about(0, 3), first);
        check.is(x.about(0, 8), 0);
    }

    private static void spanFromFirst() {
        check.promise("5 its span is from FIRST on");
        settledTo(10, 20, 9, 20);
        settledTo(10, 20, 10, 10);
        settledTo(10, 20, 11, 11);
        settledTo(0, 20, 1, 1);
        check.promise("5 its span is above TIME");
        DueWheels x = new DueWheels();
        x.often(5, 1, 0, 0);
        x.go(5);
        x.loose(0, 9, 1);
        x.loose(5, 9, 2);
        x.loose(7, 9, 3);
        check.is(x.fewest(), 1);
        check.is(x.settle(), 2);
        check.is(x.about(1, 2), 6);
        check.is(x.about(2, 2), 6);
        check.is(x.about(3, 2), 9);
    }

    private static void spanUpToItsTick() {
        check.promise("5 its span is up to its TICK");
        settledTo(10, 20, 19, 19);
        settledTo(10, 20, 20, 20);
        settledTo(10, 20, 21, 20);
        settledTo(20, 20, 20, 20);
        settledTo(20, 20, 19, 20);
        settledTo(20, 20, 21, 20);
        check.promise("5 the LOOSE ones, by their TICKS");
        DueWheels x = new DueWheels();
        x.loose(10, 30, 0);
        x.loose(20, 21, 1);
        x.loose(1, 10, 2);
        x.loose(11, 20, 3);
        x.loose(21, 40, 4);
        check.is(x.fewest(), 3);
        check.is(x.settle(), 2);
        long[] ticks = {10, 20, 10, 20, 40};
        for (int due = 0; due < 5; due++) {
            check.is(x.about(due, 2), ticks[due]);
        }
    }

    private static void leastFastTick() {
        check.promise("5 the least such one");
        DueWheels x = new DueWheels();
        x.once(18, 0);
        x.once(14, 1);
        x.once(16, 2);
        x.once(9, 3);
        x.loose(10, 20, 4);
        x.loose(15, 20, 5);
        x.loose(17, 20, 6);
        x.loose(19, 20, 7);
        check.is(x.fewest(), 1);
        check.is(x.settle(), 3);
        long[] ticks = {14, 16, 18, 20};
        for (int i = 0; i < 4; i++) {
            check.is(x.about(4 + i, 2), ticks[i]);
        }
    }

    private static void fastAtMost() {
        check.promise("5 a FAST tick may be MOST");
        settledTo(MOST, MOST, MOST, MOST);
        settledTo(1, MOST, MOST - 1, MOST - 1);
        settledTo(1, MOST - 1, MOST, MOST - 1);
        DueWheels x = new DueWheels();
        x.loose(MOST, MOST, 0);
        x.loose(1, MOST, 1);
        check.is(x.fewest(), 1);
        check.is(x.settle(), 0);
    }

    private static void onlyWhatHasATickIsFast() {
        check.promise("5 FAST ticks are the TICKS of DUES that are not LOOSE");
        DueWheels x = new DueWheels();
        x.loose(10, 20, 0);
        x.resting(15, 5, 0, 1);
        check.is(x.fewest(), 0);
        x.rest(1);
        check.is(x.fewest(), 1);
        x.chained(1, 12, 12, 2);
        check.is(x.fewest(), 1);
        x.drop(1);
        check.is(x.fewest(), 0);
        check.is(x.settle(), 1);
        check.is(x.about(0, 2), 12);
        x.drop(2);
        check.is(x.fewest(), 1);
        check.is(x.settle(), 0);
        x.often(11, 1, 0, 3);
        x.loose(12, 30, 4);
        check.is(x.fewest(), 1);
        check.is(x.settle(), 1);
        check.is(x.about(0, 2), 11);
        check.is(x.about(2, 2), 30);
    }

    private static void nothingToSettle() {
        check.promise("18 settle of none");
        DueWheels x = new DueWheels();
        check.is(x.fewest(), 0);
        check.is(x.count(7), 0);
        check.is(x.settle(), 0);
        check.is(x.count(7), 1);
        x.once(5, 0);
        check.is(x.settle(), 0);
        check.is(x.fewest(), 0);
        check.is(x.count(7), 3);
        check.is(x.undo(), 2);
        x.loose(7, 9, 1);
        check.is(x.fewest(), 1);
        x.drop(1);
        check.is(x.fewest(), 0);
        check.is(x.settle(), 0);
    }

    private static void settleTwoHundred() {
        check.promise("17, 18 of 200 LOOSE ones");
        DueWheels x = new DueWheels();
        for (int i = 0; i < 200; i++) {
            x.loose(10 * i + 1, 10 * i + 9, i);
        }
        check.is(x.fewest(), 200);
        check.is(x.settle(), 0);
        x.drop(199);
        x.once(5, 199);
        check.is(x.fewest(), 198);
        check.is(x.settle(), 1);
        check.is(x.about(0, 2), 5);
        x = new DueWheels();
        for (int i = 0; i < 200; i++) {
            x.loose(250 - i, 1000 - i, i);
        }
        check.is(x.fewest(), 1);
        check.is(x.settle(), 199);
        check.is(x.about(0, 2), 801);
        check.is(x.about(199, 2), 801);
    }

    private static void settledGotAnew() {
        check.promise("5 a TICK that becomes another one is got anew, as for MOVES");
        DueWheels x = new DueWheels();
        x.loose(70, 120, 0);
        x.loose(70, 100, 1);
        x.go(64);
        check.is(x.lies(0, 2), 1);
        check.is(x.lies(1, 2), 1);
        check.is(x.settle(), 1);
        check.is(x.lies(0, 2), 0);
        check.is(x.lies(1, 2), 1);
        check.is(x.count(6), 2);
        check.is(x.about(0, 8), 0);
    }
}
