/** All that an object tells of itself, as one text; it asks some twenty calls, and twelve more for each due. */
final class Told {
    private Told() {
    }

    static String of(DueWheels x, int dues) {
        StringBuilder all = new StringBuilder(withoutKept(x, dues));
        return all.append(" kept ").append(x.count(7)).toString();
    }

    /** But for how many changes are kept, which undo() alone does not bring back. */
    static String withoutKept(DueWheels x, int dues) {
        StringBuilder all = new StringBuilder("now ").append(x.now());
        all.append(" next ").append(x.next()).append(" fewest ").append(x.fewest());
        for (int what = 0; what < 7; what++) {
            all.append(" count ").append(x.count(what));
        }
        for (int wheel = 0; wheel < 5; wheel++) {
            all.append(" bits ").append(x.bits(wheel));
        }
        for (int due = 0; due < dues; due++) {
            all.append("\ndue ").append(due);
            for (int what = 0; what < 9; what++) {
                all.append(' ').append(x.about(due, what));
            }
            for (int what = 0; what < 3; what++) {
                all.append(' ').append(x.lies(due, what));
            }
        }
        for (int i = 0; i < x.count(4); i++) {
            all.append("\nwent ").append(x.went(i, 0)).append(' ').append(x.went(i, 1))
                    .append(' ').append(x.went(i, 2));
        }
        return all.toString();
    }
}
