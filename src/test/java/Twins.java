import java.util.function.Consumer;

/**
 * Two objects made alike: one answers the call that is tested, the other does what is due in its
 * stead; then both must tell the same of all that can be asked. So a test sees what a call changed
 * that it should not have. Neither is used for more than 512 calls.
 */
final class Twins {
    interface Call {
        long on(ChairDance x);
    }

    interface CallWith {
        long on(ChairDance x, int v);
    }

    private static final long FIRST_FINDING = -1000000001L;
    private static final int FINDINGS = 7;
    private static final int NO_FINDING = -1;
    private static final int SHEETS = 4;
    private static final int NUMBERS = 40;
    private static final long MARK = 0x123456789abcdefL;

    private Twins() {
    }

    static ChairDance made(Consumer<ChairDance> hall) {
        ChairDance x = new ChairDance();
        hall.accept(x);
        return x;
    }

    /** The call answers the finding; nothing changes but that status counts this one, once. */
    static void refused(String what, Consumer<ChairDance> hall, long finding, Call call) {
        compare(what, hall, call, finding, x -> { }, (int) (FIRST_FINDING - finding));
    }

    /** The call answers what is due, and nothing changes. */
    static void asked(String what, Consumer<ChairDance> hall, long due, Call call) {
        compare(what, hall, call, due, x -> { }, NO_FINDING);
    }

    /** The call answers what is due, and changes what the other calls change. */
    static void acted(String what, Consumer<ChairDance> hall, long due, Call call, Consumer<ChairDance> others) {
        compare(what, hall, call, due, others, NO_FINDING);
    }

    /** BEYOND for the values next to those that may be, and for the least and the greatest there are. */
    static void beyondOutside(String what, Consumer<ChairDance> hall, int first, int last, CallWith call) {
        int[] outside = {first - 1, last + 1, Integer.MIN_VALUE, Integer.MAX_VALUE};
        for (int v : outside) {
            refused(what + " " + v, hall, Check.BEYOND, x -> call.on(x, v));
        }
    }

    private static void compare(String what, Consumer<ChairDance> hall, Call call, long due,
            Consumer<ChairDance> others, int finding) {
        ChairDance x = made(hall);
        ChairDance twin = made(hall);
        Check.due(what, call.on(x), due);
        others.accept(twin);
        for (int which = -1; which < FINDINGS; which++) {
            int more = finding != NO_FINDING && (which == -1 || which == finding) ? 1 : 0;
            Check.due(what + ": status " + which, x.status(which), twin.status(which) + more);
        }
        long[] told = told(x);
        long[] twinTold = told(twin);
        for (int i = 0; i < told.length; i++) {
            Check.due(what + ": told " + i, told[i], twinTold[i]);
        }
    }

    /** All that can be asked of an object; it is of no more use then. */
    private static long[] told(ChairDance x) {
        Told told = new Told();
        tellHall(x, told, 10);
        tellSheets(x, told);
        told.add(x.hall());
        told.add(x.undo());
        tellHall(x, told, 7);
        return told.all;
    }

    private static void tellHall(ChairDance x, Told told, int whats) {
        for (int what = 0; what < 4; what++) {
            told.add(x.count(what));
            told.add(x.now(what));
            for (int seat = 0; seat < 6; seat++) {
                told.add(x.seatOf(seat, what));
            }
        }
        for (int one = 0; one < 10; one++) {
            for (int what = 0; what < whats; what++) {
                told.add(x.of(one, what));
            }
        }
    }

    /** Each number, and by the mark at the first of each sheet how many bits it has. */
    private static void tellSheets(ChairDance x, Told told) {
        for (int s = 0; s < SHEETS; s++) {
            for (int i = 0; i < NUMBERS; i++) {
                told.add(x.write(s, i, MARK));
            }
            told.add(x.write(s, 0, MARK));
        }
    }

    private static final class Told {
        final long[] all = new long[400];
        private int many = 0;

        void add(long v) {
            all[many++] = v;
        }
    }
}
