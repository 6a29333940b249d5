/** Promises 12 to 14. */
public final class CoughsAndSecondsTest {
    public static void main(String[] args) {
        cough();
        seconds();
        changedSeats();
        stays();
        steps();
        pagesInTheWay();
        orderOfSeats();
        lastSecond();
        now();
        Check.end();
    }

    private static void cough() {
        ChairDance x = new ChairDance();
        Check.due("no seat", x.cough(0), Check.BEYOND);
        x.seat(55, 3);
        Check.due("nobody holds it", x.cough(0), Check.STATE);
        Check.due("no seat -1", x.cough(-1), Check.BEYOND);
        x.comes(0, 0, 0);
        x.seconds(3);
        Check.due("sat", x.of(0, 6), 3);
        Check.due("nobody is next", x.cough(0), -1);
        Check.due("he stands", x.of(0, 5), -1);
        Check.due("on the seat's spot", x.of(0, 1), 55);
        Check.due("sat of one who stands", x.of(0, 6), 0);
        Check.due("coins stay", x.of(0, 4), 9);
        Check.due("nobody holds it now", x.cough(0), Check.STATE);
        x.seconds(1);
        x.comes(0, 99, 0);
        Check.due("he himself is not next", x.cough(0), 1);
        Check.due("the other sits", x.of(1, 5), 0);
        Check.due("on its spot", x.of(1, 1), 55);
        Check.due("sat 0", x.of(1, 6), 0);
        Check.due("second as it was", x.now(0), 4);
    }

    private static void seconds() {
        ChairDance x = new ChairDance();
        Check.due("0", x.seconds(0), Check.BEYOND);
        Check.due("201", x.seconds(201), Check.BEYOND);
        Check.due("-1", x.seconds(-1), Check.BEYOND);
        Check.due("least", x.seconds(Integer.MIN_VALUE), Check.BEYOND);
        Check.due("most", x.seconds(Integer.MAX_VALUE), Check.BEYOND);
        Check.due("1", x.seconds(1), 0);
        Check.due("200", x.seconds(200), 0);
        Check.due("second", x.now(0), 201);
        x.seat(55, 7);
        x.comes(0, 0, 0);
        Check.due("it falls", x.seconds(1), 1);
        Check.due("sat 1 at once", x.of(0, 6), 1);
        Check.due("paid at once", x.of(0, 4), 7);
    }

    private static void changedSeats() {
        ChairDance x = new ChairDance();
        x.seat(0, 1);
        x.seat(99, 1);
        x.comes(0, 0, 0);
        Check.due("one of two", x.seconds(1), 1);
        Check.due("none", x.seconds(9), 0);
        // He rises from seat 0 and is next for seat 1, whose turn comes later in this second.
        Check.due("both", x.seconds(1), 2);
        Check.due("seat 0", x.seatOf(0, 2), -1);
        Check.due("seat 1", x.seatOf(1, 2), 0);
        Check.due("to nobody and back counts as unchanged", changesInTwo(), 0);
    }

    private static int changesInTwo() {
        ChairDance x = new ChairDance();
        x.seat(0, 1);
        x.comes(0, 0, 0);
        x.seconds(10);
        return x.seconds(2);
    }

    private static void stays() {
        int[] stays = {10, 20, 0, 15, 4, 20};
        for (int kind = 0; kind < 6; kind++) {
            if (kind == 2) {
                continue;
            }
            ChairDance x = new ChairDance();
            x.seat(0, 1);
            x.comes(kind, 0, 0);
            x.seconds(stays[kind]);
            Check.due(kind + " still sits", x.seatOf(0, 2), 0);
            Check.due(kind + " sat", x.of(0, 6), stays[kind]);
            Check.due(kind + " rises", x.seconds(1), 1);
            Check.due(kind + " has risen", x.seatOf(0, 2), -1);
            Check.due(kind + " sits again", x.seconds(1), 1);
        }
        ChairDance y = new ChairDance();
        y.seat(0, 1);
        y.comes(1, 0, 0);
        y.seconds(15);
        y.turn(0, 4);
        Check.due("longer than he stays now", y.seconds(1), 1);
    }

    private static void steps() {
        ChairDance x = new ChairDance();
        x.seat(37, 1);
        for (int kind = 0; kind < 6; kind++) {
            x.comes(kind, 90, 0);
            x.set(kind, 3, 0);
        }
        // The seat is held by one who wants none, so that the others go on. Courtier 0 waits once,
        // for the page has overtaken him and stands ahead of him when his turn comes.
        x.comes(0, 37, 99);
        int[][] due = {
            {81, 81, 72, 90, 90, 81}, {81, 81, 54, 81, 81, 81}, {72, 72, 36, 72, 72, 72},
            {63, 72, 37, 72, 72, 72}, {54, 63, 37, 63, 63, 63},
        };
        for (int n = 0; n < due.length; n++) {
            x.seconds(1);
            for (int kind = 0; kind < 6; kind++) {
                Check.due(kind + " after " + (n + 1), x.of(kind, 1), due[n][kind]);
            }
        }
        x.seconds(4);
        Check.due("straight on, blocked by the page on the seat", x.of(0, 1), 36);
        ChairDance y = new ChairDance();
        y.seat(5, 1);
        y.comes(0, 5, 0);
        y.comes(0, 5, 0);
        y.set(0, 3, 0);
        y.set(1, 3, 0);
        y.seconds(3);
        Check.due("who is there stays", y.of(1, 1), 5);
        ChairDance z = new ChairDance();
        z.seat(5, 1);
        z.comes(0, 5, 0);
        z.comes(0, 75, 0);
        z.seconds(3);
        Check.due("without a will none goes", z.of(1, 1), 75);
    }

    private static void pagesInTheWay() {
        ChairDance x = new ChairDance();
        x.seat(9, 1);
        x.comes(0, 9, 0);
        x.comes(0, 0, 0);
        x.comes(2, 2, 0);
        x.set(1, 3, 0);
        x.seconds(1);
        Check.due("up to the page", x.of(1, 1), 1);
        x.seconds(2);
        Check.due("and no further", x.of(1, 1), 1);
        x.set(2, 3, 0);
        x.seconds(1);
        Check.due("by numbers: the page is still there", x.of(1, 1), 1);
        Check.due("two steps of a page", x.of(2, 1), 4);
        x.comes(2, 6, 0);
        x.seconds(1);
        Check.due("a page is in a page's way", x.of(2, 1), 5);
        Check.due("others go on", x.of(1, 1), 2);
        ChairDance z = new ChairDance();
        z.seat(9, 1);
        z.comes(2, 2, 0);
        z.comes(0, 9, 0);
        z.comes(0, 0, 0);
        z.set(2, 3, 0);
        z.seconds(5);
        Check.due("the first of the court is in the way, too", z.of(2, 1), 1);
        ChairDance y = new ChairDance();
        y.seat(1, 0);
        y.seat(9, 0);
        y.comes(0, 1, 0);
        y.comes(0, 9, 0);
        y.comes(0, 0, 0);
        y.seconds(1);
        y.turn(0, 2);
        y.set(2, 3, 1);
        y.seconds(1);
        Check.due("a page who sits is in nobody's way", y.of(2, 1), 1);
    }

    private static void orderOfSeats() {
        ChairDance x = new ChairDance();
        x.seat(0, 1);
        x.seat(99, 10);
        x.comes(4, 0, 0);
        x.comes(4, 99, 0);
        x.comes(0, 50, 0);
        x.seconds(4);
        x.seconds(1);
        // 0 rises, 2 comes to seat 0; then 1 rises, and 0, who stands now, comes to seat 1.
        Check.due("seat 0", x.seatOf(0, 2), 2);
        Check.due("seat 1", x.seatOf(1, 2), 0);
        Check.due("1 stands", x.of(1, 5), -1);
        Check.due("paid by the new seat", x.of(0, 4), 4 + 10);
        Check.due("all coins", x.now(3), 4 + 10 + 40 + 1);
    }

    private static void lastSecond() {
        ChairDance x = new ChairDance();
        for (int i = 0; i < 49; i++) {
            x.seconds(200);
        }
        Check.due("second", x.now(0), 9800);
        Check.due("one too many", x.seconds(200), Check.STATE);
        Check.due("BEYOND ahead of STATE", x.seconds(201), Check.BEYOND);
        Check.due("to the last", x.seconds(199), 0);
        Check.due("the last", x.now(0), 9999);
        Check.due("no more", x.seconds(1), Check.STATE);
        Check.due("still the last", x.now(0), 9999);
    }

    private static void now() {
        ChairDance x = new ChairDance();
        for (int s = 0; s < 3; s++) {
            x.seat(s, 10);
        }
        x.comes(0, 0, 0);
        x.comes(0, 50, 0);
        x.comes(2, 50, 0);
        x.seconds(3);
        Check.due("second", x.now(0), 3);
        Check.due("two sit", x.now(1), 2);
        Check.due("one is empty", x.now(2), 1);
        Check.due("coins", x.now(3), 60);
        Check.due("what 4", x.now(4), Check.BEYOND);
        Check.due("what -1", x.now(-1), Check.BEYOND);
    }
}
