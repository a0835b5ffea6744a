/** All that can be seen of an object by calls that change nothing. */
final class Whole {
    private final PassTheSalt x;
    private final StringBuilder all = new StringBuilder();

    private Whole(PassTheSalt x) {
        this.x = x;
    }

    static String of(PassTheSalt x) {
        Whole whole = new Whole(x);
        whole.table();
        whole.ahead();
        whole.sums();
        return whole.all.toString();
    }

    /** The same, and what every undoing and every table kept brings to light; x is spent by it. */
    static String toTheGround(PassTheSalt x) {
        StringBuilder all = new StringBuilder(briefly(x));
        for (int k = 0; k < 9; k++) {
            all.append(" undo ").append(x.undo()).append(briefly(x));
        }
        for (int k = 0; k < 3; k++) {
            all.append(" back ").append(x.back()).append(briefly(x));
        }
        all.append(" fault ").append(x.fault());
        all.append(" lay ").append(x.lay()).append(briefly(x));
        all.append(" wipe ").append(x.wipe());
        return all.toString();
    }

    /** By few calls, as an object is good for 512 of them. */
    private static String briefly(PassTheSalt x) {
        Whole whole = new Whole(x);
        for (int what = 0; what < 7; what++) {
            whole.add("count " + what, x.count(what));
        }
        for (int i = 0; i < 3; i++) {
            whole.add("dish of " + i, x.guest(i, 1));
            whole.add("had by " + i, x.guest(i, 3));
        }
        whole.add("went(2)", x.went(2));
        return whole.all.toString();
    }

    private void add(String call, long answer) {
        all.append(' ').append(call).append(' ').append(answer).append(';');
    }

    private void table() {
        for (int what = 0; what < 7; what++) {
            add("count " + what, x.count(what));
        }
        add("fault", x.fault());
        for (int i = 0; i < x.count(0); i++) {
            for (int what = 0; what < 4; what++) {
                add("guest " + i + " " + what, x.guest(i, what));
            }
            for (int d = 0; d < x.count(1); d++) {
                add("worth " + i + " " + d, x.worth(i, d, 0));
            }
        }
        add("worth at 1", x.worth(0, 0, 1));
        add("evening", x.evening());
    }

    private void ahead() {
        for (int i = 0; i < x.count(0); i++) {
            add("never " + i, x.never(i));
            for (int d = 0; d < x.count(1); d++) {
                add("need " + i + " " + d, x.need(i, d));
                add("first " + i + " " + d, x.first(i, d));
                add("price " + i + " " + d, x.price(i, d));
            }
        }
        add("stuck", x.stuck());
        add("rest", x.rest());
        add("seats", x.seats());
        for (int what = 0; what < 2; what++) {
            add("holdsUp " + what, x.holdsUp(what));
            add("liked " + what, x.liked(what));
        }
    }

    private void sums() {
        add("most", x.most());
        for (int n = 0; n < 5; n++) {
            add("went " + n, x.went(n));
        }
        for (int d = -1; d < x.count(1); d++) {
            add("drawn " + d, x.drawn(1234, 20, d));
        }
    }
}
