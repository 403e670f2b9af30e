/**
 * "A call that is refused answers one of BAD, NO, FULL, RING, of several the one that stands first
 * here, and changes nothing": each argument of each call at its bounds and just beyond them, and
 * each other ground to refuse. Every call is made on an object of its own, and an object to which
 * it was refused is compared with a twin that was never asked.
 */
public final class RefusedTest {
    private static final long BAD = Check.BAD, NO = Check.NO, FULL = Check.FULL;
    private static final long RING = Check.RING, NONE = Check.NONE, MOST = Check.MOST;
    private static final int LEAST_INT = Integer.MIN_VALUE, MOST_INT = Integer.MAX_VALUE;
    private static final long LEAST_LONG = Long.MIN_VALUE, MOST_LONG = Long.MAX_VALUE;
    private static final int DUES = 10;
    private static final long[] NO_DUES = {LEAST_INT, -1, 8, 10, 199, 200, MOST_INT};
    private static final Check check = new Check();

    private interface Scene {
        DueWheels made();
    }

    private interface Call {
        long on(DueWheels x);
    }

    private interface CallWith {
        long on(DueWheels x, long n);
    }

    public static void main(String[] args) {
        newDues();
        full();
        badAheadOfFull();
        changesOfDues();
        noTickNoWaitingNoRest();
        ring();
        firstOfSeveral();
        questionsOfDues();
        time();
        wheels();
        nothingKept();
        check.end();
    }

    /** Dues of all kinds at the time 70; 8 went, so it is a number between others that no due has. */
    private static DueWheels some() {
        DueWheels x = new DueWheels();
        x.once(500, 10);
        x.often(100, 50, 4, 11);
        x.loose(80, 400, 12);
        x.chained(0, 5, 300, 13);
        x.resting(200, 20, 0, 14);
        x.resting(90, 20, 3, 15);
        x.chained(3, 5, 300, 16);
        x.chained(6, 5, 300, 17);
        x.once(66, 18);
        x.once(MOST, 19);
        x.rest(5);
        x.go(70);
        return x;
    }

    private static DueWheels filled() {
        DueWheels x = new DueWheels();
        for (int i = 0; i < 200; i++) {
            x.once(1000 + i, i);
        }
        return x;
    }

    private static void taken(String name, CallWith call, long... numbers) {
        for (long n : numbers) {
            long answer = call.on(some(), n);
            check.holds(name + " " + n + " is taken, not answered " + answer, answer > BAD);
        }
    }

    private static void bad(String name, CallWith call, long... numbers) {
        for (long n : numbers) {
            refused(name + " " + n, BAD, RefusedTest::some, x -> call.on(x, n));
        }
    }

    private static void refused(String name, long answer, Call call) {
        refused(name, answer, RefusedTest::some, call);
    }

    private static void refused(String name, long answer, Scene scene, Call call) {
        DueWheels asked = scene.made();
        DueWheels twin = scene.made();
        long got = call.on(asked);
        check.holds(name + " answers " + answer + ", not " + got, got == answer);
        check.holds(name + " changes nothing", Told.of(asked, DUES).equals(Told.of(twin, DUES)));
        check.holds(name + " is not kept", later(asked).equals(later(twin)));
    }

    /** What is not told at once: the next number and place, and what is taken back. */
    private static String later(DueWheels x) {
        StringBuilder all = new StringBuilder();
        long due = x.once(MOST, 1);
        all.append(due).append(' ').append(x.about((int) Math.max(due, 0), 8));
        for (int i = 0; i < 7; i++) {
            all.append(' ').append(x.undo()).append(' ').append(x.now()).append(' ').append(x.count(0));
        }
        return all.toString();
    }

    private static void newDues() {
        long[] badTicks = {LEAST_LONG, -1, 0, 69, 70, MOST + 1, MOST_LONG};
        long[] badSpans = {LEAST_LONG, -1, 0, MOST + 1, MOST_LONG};
        long[] badTimes = {LEAST_INT, -1, 1000001, MOST_INT};
        check.promise("2 once");
        bad("tick", (x, n) -> x.once(n, 1), badTicks);
        taken("tick", (x, n) -> x.once(n, 1), 71, MOST);
        check.promise("3 often");
        bad("tick", (x, n) -> x.often(n, 1, 1, 1), badTicks);
        taken("tick", (x, n) -> x.often(n, 1, 1, 1), 71, MOST);
        bad("every", (x, n) -> x.often(71, n, 1, 1), badSpans);
        taken("every", (x, n) -> x.often(71, n, 1, 1), 1, MOST);
        bad("times", (x, n) -> x.often(71, 1, (int) n, 1), badTimes);
        taken("times", (x, n) -> x.often(71, 1, (int) n, 1), 0, 1, 1000000);
        check.promise("6 resting");
        bad("tick", (x, n) -> x.resting(n, 1, 1, 1), badTicks);
        taken("tick", (x, n) -> x.resting(n, 1, 1, 1), 71, MOST);
        bad("every", (x, n) -> x.resting(71, n, 1, 1), badSpans);
        taken("every", (x, n) -> x.resting(71, n, 1, 1), 1, MOST);
        bad("times", (x, n) -> x.resting(71, 1, (int) n, 1), badTimes);
        taken("times", (x, n) -> x.resting(71, 1, (int) n, 1), 0, 1, 1000000);
        check.promise("4 loose");
        bad("first", (x, n) -> x.loose(n, 90, 1), LEAST_LONG, -1, 91, MOST_LONG);
        taken("first", (x, n) -> x.loose(n, 90, 1), 0, 69, 70, 71, 90);
        bad("last", (x, n) -> x.loose(0, n, 1), badTicks);
        taken("last", (x, n) -> x.loose(0, n, 1), 71, MOST);
        bad("last, below first", (x, n) -> x.loose(80, n, 1), 79, 71);
        bad("both", (x, n) -> x.loose(n, n, 1), LEAST_LONG, -1, 0, 70, MOST + 1, MOST_LONG);
        taken("both", (x, n) -> x.loose(n, n, 1), 71, MOST);
        check.promise("5 chained");
        bad("ahead", (x, n) -> x.chained((int) n, 1, 1, 1), NO_DUES);
        taken("ahead", (x, n) -> x.chained((int) n, 1, 1, 1), 0, 1, 2, 3, 4, 5, 7, 9);
        bad("behind", (x, n) -> x.chained(0, n, 1, 1), badSpans);
        taken("behind", (x, n) -> x.chained(0, n, 1, 1), 1, MOST);
        bad("reserve", (x, n) -> x.chained(0, 1, n, 1), LEAST_LONG, -1, MOST + 1, MOST_LONG);
        taken("reserve", (x, n) -> x.chained(0, 1, n, 1), 0, 70, 71, MOST);
    }

    private static void full() {
        check.promise("2 to 6 FULL");
        Scene filled = RefusedTest::filled;
        refused("once", FULL, filled, x -> x.once(5, 1));
        refused("often", FULL, filled, x -> x.often(5, 1, 1, 1));
        refused("loose", FULL, filled, x -> x.loose(5, 5, 1));
        refused("chained", FULL, filled, x -> x.chained(199, 1, 1, 1));
        refused("resting", FULL, filled, x -> x.resting(5, 1, 1, 1));
        DueWheels x = filled();
        x.undo();
        check.is(x.once(5, 1), 199);
        check.is(x.once(5, 1), FULL);
        x.go(5);
        check.is(x.once(6, 1), 199);
        x.drop(0);
        check.is(x.often(6, 1, 1, 1), 0);
        check.is(x.once(6, 1), FULL);
    }

    private static void badAheadOfFull() {
        check.promise("2 to 6 BAD stands ahead of FULL");
        Scene filled = RefusedTest::filled;
        refused("once, tick", BAD, filled, x -> x.once(0, 1));
        refused("once, tick", BAD, filled, x -> x.once(MOST + 1, 1));
        refused("often, tick", BAD, filled, x -> x.often(0, 1, 1, 1));
        refused("often, every", BAD, filled, x -> x.often(5, 0, 1, 1));
        refused("often, times", BAD, filled, x -> x.often(5, 1, -1, 1));
        refused("loose, first", BAD, filled, x -> x.loose(6, 5, 1));
        refused("loose, last", BAD, filled, x -> x.loose(0, 0, 1));
        refused("chained, ahead", BAD, filled, x -> x.chained(200, 1, 1, 1));
        refused("chained, behind", BAD, filled, x -> x.chained(0, 0, 1, 1));
        refused("chained, reserve", BAD, filled, x -> x.chained(0, 1, -1, 1));
        refused("resting, tick", BAD, filled, x -> x.resting(0, 1, 1, 1));
        refused("resting, every", BAD, filled, x -> x.resting(5, MOST + 1, 1, 1));
        refused("resting, times", BAD, filled, x -> x.resting(5, 1, 1000001, 1));
    }

    private static void changesOfDues() {
        check.promise("7 drop");
        bad("due", (x, n) -> x.drop((int) n), NO_DUES);
        taken("due", (x, n) -> x.drop((int) n), 0, 1, 2, 3, 4, 5, 6, 7, 9);
        check.promise("8 shift");
        bad("due", (x, n) -> x.shift((int) n, 1), NO_DUES);
        taken("due", (x, n) -> x.shift((int) n, 1), 0, 1, 2, 4);
        bad("d", (x, n) -> x.shift(0, n), LEAST_LONG, -MOST - 1, -MOST, -431, -430,
                MOST - 499, MOST, MOST + 1, MOST_LONG);
        taken("d", (x, n) -> x.shift(0, n), -429, -1, 0, 1, MOST - 500);
        bad("d of one at MOST", (x, n) -> x.shift(9, n), 1, MOST, -MOST, -MOST + 70);
        taken("d of one at MOST", (x, n) -> x.shift(9, n), 0, -1, -MOST + 71);
        bad("d of one without TICK", (x, n) -> x.shift(3, n), LEAST_LONG, -MOST - 1, MOST + 1, MOST_LONG);
        check.promise("9 chain");
        bad("due", (x, n) -> x.chain((int) n, 0), NO_DUES);
        bad("ahead", (x, n) -> x.chain(3, (int) n), NO_DUES);
        bad("both", (x, n) -> x.chain((int) n, (int) n), NO_DUES);
        taken("ahead", (x, n) -> x.chain(3, (int) n), 0, 1, 2, 4, 5, 9);
        check.promise("10 rest");
        bad("due", (x, n) -> x.rest((int) n), NO_DUES);
        taken("due", (x, n) -> x.rest((int) n), 4);
        check.promise("11 wake");
        bad("due", (x, n) -> x.wake((int) n), NO_DUES);
        taken("due", (x, n) -> x.wake((int) n), 5);
    }

    private static void noTickNoWaitingNoRest() {
        check.promise("8 shift, NO: it has no TICK");
        for (int due : new int[] {3, 5, 6, 7}) {
            for (long d : new long[] {-MOST, -1, 0, 1, MOST}) {
                refused("of " + due + " by " + d, NO, x -> x.shift(due, d));
            }
        }
        check.promise("9 chain, NO: it does not wait");
        for (int due : new int[] {0, 1, 2, 4, 5, 9}) {
            refused("of " + due, NO, x -> x.chain(due, due == 1 ? 0 : 1));
        }
        check.promise("10 rest, NO: it is not of KIND 4, or rests");
        for (int due : new int[] {0, 1, 2, 3, 5, 9}) {
            refused("of " + due, NO, x -> x.rest(due));
        }
        check.promise("11 wake, NO: it does not rest");
        for (int due : new int[] {0, 1, 2, 3, 4, 9}) {
            refused("of " + due, NO, x -> x.wake(due));
        }
    }

    private static void ring() {
        check.promise("9 chain, RING");
        refused("itself", RING, x -> x.chain(3, 3));
        refused("itself, at the end of the line", RING, x -> x.chain(7, 7));
        refused("waits behind it", RING, x -> x.chain(3, 6));
        refused("waits behind it", RING, x -> x.chain(6, 7));
        refused("waits behind one that waits behind it", RING, x -> x.chain(3, 7));
        taken("one ahead of it", (x, n) -> x.chain(7, (int) n), 6, 3, 0);
    }

    private static void firstOfSeveral() {
        check.promise("of several the one that stands first");
        refused("BAD ahead of NO: chain, ahead", BAD, x -> x.chain(0, 8));
        refused("BAD ahead of NO: shift, d", BAD, x -> x.shift(5, MOST + 1));
        refused("NO ahead of RING: chain, itself", NO, x -> x.chain(0, 0));
        refused("NO ahead of RING: chain, waits behind it", NO, x -> x.chain(0, 3));
        refused("NO ahead of RING: chain, and so on", NO, x -> x.chain(0, 7));
    }

    private static void questionsOfDues() {
        check.promise("12 about");
        bad("due", (x, n) -> x.about((int) n, 0), NO_DUES);
        bad("what", (x, n) -> x.about(0, (int) n), LEAST_INT, -1, 9, MOST_INT);
        check.promise("13 isOf");
        bad("due", (x, n) -> x.isOf((int) n, 0), NO_DUES);
        bad("kind", (x, n) -> x.isOf(0, (int) n), LEAST_INT, -1, 5, MOST_INT);
        taken("kind", (x, n) -> x.isOf(0, (int) n), 0, 1, 2, 3, 4);
        check.promise("19 lies");
        bad("due", (x, n) -> x.lies((int) n, 0), NO_DUES);
        bad("due", (x, n) -> x.lies((int) n, 2), NO_DUES);
        bad("what", (x, n) -> x.lies(0, (int) n), LEAST_INT, -1, 3, MOST_INT);
        bad("what without TICK", (x, n) -> x.lies(3, (int) n), LEAST_INT, -1, 3, MOST_INT);
        taken("what", (x, n) -> x.lies(0, (int) n), 0, 1, 2);
    }

    private static void time() {
        check.promise("14 go");
        bad("tick", (x, n) -> x.go(n), LEAST_LONG, -1, 0, 69, MOST, MOST + 1, MOST_LONG);
        taken("tick", (x, n) -> x.go(n), 70, 71, MOST - 1);
        check.promise("15 went");
        bad("i", (x, n) -> x.went((int) n, 0), LEAST_INT, -1);
        bad("what", (x, n) -> x.went(0, (int) n), LEAST_INT, -1, 3, MOST_INT);
        bad("what, where there are not so many", (x, n) -> x.went(1, (int) n), LEAST_INT, -1, 3, MOST_INT);
        taken("what", (x, n) -> x.went(0, (int) n), 0, 1, 2);
    }

    private static void wheels() {
        check.promise("20 bits");
        bad("wheel", (x, n) -> x.bits((int) n), LEAST_INT, -1, 5, 6, MOST_INT);
        taken("wheel", (x, n) -> x.bits((int) n), 0, 1, 2, 3, 4);
        check.promise("21 many");
        bad("wheel", (x, n) -> x.many((int) n, 0), LEAST_INT, -1, 6, MOST_INT);
        taken("wheel", (x, n) -> x.many((int) n, 0), 0, 4, 5);
        bad("slot of wheel 0", (x, n) -> x.many(0, (int) n), LEAST_INT, -1, 64, MOST_INT);
        bad("slot of wheel 4", (x, n) -> x.many(4, (int) n), LEAST_INT, -1, 64, MOST_INT);
        bad("slot of the DRAWER", (x, n) -> x.many(5, (int) n), LEAST_INT, -1, 1, 63, 64, MOST_INT);
        taken("slot", (x, n) -> x.many(4, (int) n), 0, 63);
        check.promise("22 in");
        bad("wheel", (x, n) -> x.in((int) n, 0, 0), LEAST_INT, -1, 6, MOST_INT);
        bad("slot of wheel 0", (x, n) -> x.in(0, (int) n, 0), LEAST_INT, -1, 64, MOST_INT);
        bad("slot of wheel 4", (x, n) -> x.in(4, (int) n, 0), LEAST_INT, -1, 64, MOST_INT);
        bad("slot of the DRAWER", (x, n) -> x.in(5, (int) n, 0), LEAST_INT, -1, 1, 63, 64, MOST_INT);
        bad("i", (x, n) -> x.in(5, 0, (int) n), LEAST_INT, -1);
        bad("i of an empty slot", (x, n) -> x.in(0, 0, (int) n), LEAST_INT, -1);
        taken("i", (x, n) -> x.in(5, 0, (int) n), 0);
        check.promise("25 count");
        bad("what", (x, n) -> x.count((int) n), LEAST_INT, -1, 8, MOST_INT);
        taken("what", (x, n) -> x.count((int) n), 0, 1, 2, 3, 4, 5, 6, 7);
    }

    private static void nothingKept() {
        check.promise("24 undo, NO: none is kept");
        refused("a new object", NO, DueWheels::new, DueWheels::undo);
        refused("all taken back", NO, RefusedTest::takenBack, DueWheels::undo);
        check.promise("a new object refuses");
        refused("drop", BAD, DueWheels::new, x -> x.drop(0));
        refused("shift", BAD, DueWheels::new, x -> x.shift(0, 0));
        refused("chain", BAD, DueWheels::new, x -> x.chain(0, 0));
        refused("rest", BAD, DueWheels::new, x -> x.rest(0));
        refused("wake", BAD, DueWheels::new, x -> x.wake(0));
        refused("chained", BAD, DueWheels::new, x -> x.chained(0, 1, 1, 1));
        refused("about", BAD, DueWheels::new, x -> x.about(0, 0));
        refused("isOf", BAD, DueWheels::new, x -> x.isOf(0, 0));
        refused("lies", BAD, DueWheels::new, x -> x.lies(0, 0));
        check.promise("a new object has none");
        refused("went", NONE, DueWheels::new, x -> x.went(0, 0));
        refused("next", NONE, DueWheels::new, DueWheels::next);
        refused("in", NONE, DueWheels::new, x -> x.in(5, 0, 0));
    }

    private static DueWheels takenBack() {
        DueWheels x = some();
        for (int i = 0; i < 6; i++) {
            x.undo();
        }
        return x;
    }
}
