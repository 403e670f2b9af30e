/** Counts and prints the answers that are not the ones due. */
final class Check {
    static final long BAD = -2000000001L, NO = -2000000002L, FULL = -2000000003L;
    static final long RING = -2000000004L, NONE = -2000000005L, MOST = 1L << 50;

    private int wrong;
    private int done;
    private String about = "";

    void promise(String name) {
        about = name;
    }

    void is(long got, long want) {
        done++;
        if (got != want) {
            wrong++;
            StackTraceElement at = new Throwable().getStackTrace()[1];
            System.out.println(about + " (" + at.getFileName() + ":" + at.getLineNumber()
                    + "): answered " + got + ", due is " + want);
        }
    }

    void holds(String what, boolean so) {
        done++;
        if (!so) {
            wrong++;
            System.out.println(about + ": " + what);
        }
    }

    /** Goings of what went, each as its due and its tick. */
    void went(DueWheels x, long... duesAndTicks) {
        int goings = duesAndTicks.length / 2;
        boolean so = x.count(4) == goings;
        StringBuilder got = new StringBuilder();
        for (int i = 0; i < x.count(4); i++) {
            got.append(' ').append(x.went(i, 0)).append('@').append(x.went(i, 1));
            so = so && x.went(i, 0) == duesAndTicks[2 * i] && x.went(i, 1) == duesAndTicks[2 * i + 1];
        }
        so = so && x.went(goings, 0) == NONE;
        StackTraceElement at = new Throwable().getStackTrace()[1];
        holds("line " + at.getLineNumber() + ": there went" + got, so);
    }

    void end() {
        System.out.println(wrong == 0 ? done + " checks hold" : wrong + " of " + done + " checks fail");
        if (wrong != 0) {
            System.exit(1);
        }
    }
}
