/** Promises 1 to 11. */
public final class SeatsAndCourtTest {
    private static final int LOW = Integer.MIN_VALUE;
    private static final int HIGH = Integer.MAX_VALUE;

    public static void main(String[] args) {
        newObject();
        seats();
        seatOf();
        worth();
        comes();
        kinds();
        goes();
        set();
        turn();
        as();
        far();
        on();
        next();
        Check.end();
    }

    private static void newObject() {
        ChairDance x = new ChairDance();
        for (int what = 0; what < 4; what++) {
            Check.due("new: count " + what, x.count(what), 0);
            Check.due("new: now " + what, x.now(what), 0);
        }
        Check.due("new: no seat 0", x.seatOf(0, 0), Check.BEYOND);
        Check.due("new: nobody is 0", x.of(0, 0), Check.BEYOND);
        Check.due("new: nobody on 0", x.on(0), 0);
        Check.due("new: tape", x.wipe(), 0);
        Check.due("new: nothing kept", x.tear(), 0);
        Check.due("new: nothing to undo", x.undo(), Check.NONE);
        Check.due("new: sheets missing", x.write(3, 0, 1), Check.MISSING);
        Check.due("new: findings", x.status(-1), 4);
    }

    private static void seats() {
        ChairDance x = new ChairDance();
        int[] wrong = {-1, 100, LOW, HIGH};
        for (int v : wrong) {
            Check.due("seat on " + v, x.seat(v, 0), Check.BEYOND);
            Check.due("seat worth " + v, x.seat(0, v), Check.BEYOND);
        }
        Check.due("first", x.seat(0, 0), 0);
        Check.due("second", x.seat(99, 99), 1);
        Check.due("same spot", x.seat(0, 5), Check.STATE);
        Check.due("BEYOND ahead of STATE", x.seat(0, 100), Check.BEYOND);
        for (int s = 2; s < 6; s++) {
            Check.due("more", x.seat(s, s), s);
        }
        Check.due("full", x.seat(50, 5), Check.FULL);
        Check.due("STATE ahead of FULL", x.seat(99, 5), Check.STATE);
        Check.due("BEYOND ahead of FULL", x.seat(50, -1), Check.BEYOND);
        Check.due("how many", x.count(1), 6);
    }

    private static void seatOf() {
        ChairDance x = new ChairDance();
        x.seat(37, 42);
        Check.due("spot", x.seatOf(0, 0), 37);
        Check.due("worth", x.seatOf(0, 1), 42);
        Check.due("holder", x.seatOf(0, 2), -1);
        Check.due("next", x.seatOf(0, 3), -1);
        x.comes(0, 1, 0);
        x.comes(0, 2, 0);
        Check.due("next stands", x.seatOf(0, 3), 1);
        x.seconds(1);
        Check.due("held", x.seatOf(0, 2), 1);
        Check.due("next of the others", x.seatOf(0, 3), 0);
        Check.due("what -1", x.seatOf(0, -1), Check.BEYOND);
        Check.due("what 4", x.seatOf(0, 4), Check.BEYOND);
        Check.due("seat -1", x.seatOf(-1, 0), Check.BEYOND);
        Check.due("seat 1", x.seatOf(1, 0), Check.BEYOND);
        Check.due("seat far off", x.seatOf(HIGH, 0), Check.BEYOND);
    }

    private static void worth() {
        ChairDance x = new ChairDance();
        x.seat(5, 7);
        Check.due("was", x.worth(0, 99), 7);
        Check.due("was then", x.worth(0, 0), 99);
        Check.due("is", x.seatOf(0, 1), 0);
        Check.due("above", x.worth(0, 100), Check.BEYOND);
        Check.due("below", x.worth(0, -1), Check.BEYOND);
        Check.due("no seat", x.worth(1, 1), Check.BEYOND);
        Check.due("no seat", x.worth(-1, 1), Check.BEYOND);
        Check.due("unchanged", x.seatOf(0, 1), 0);
    }

    private static void comes() {
        ChairDance x = new ChairDance();
        int[] wrong = {-1, 100, LOW, HIGH};
        for (int v : wrong) {
            Check.due("kind " + v, x.comes(v, 0, 0), Check.BEYOND);
            Check.due("spot " + v, x.comes(0, v, 0), Check.BEYOND);
            Check.due("toes " + v, x.comes(0, 0, v), Check.BEYOND);
        }
        Check.due("kind 6", x.comes(6, 0, 0), Check.BEYOND);
        for (int i = 0; i < 10; i++) {
            Check.due("one", x.comes(i % 6, 99 - i, 90 + i), i);
        }
        Check.due("full", x.comes(0, 0, 0), Check.FULL);
        Check.due("BEYOND ahead of FULL", x.comes(0, 100, 0), Check.BEYOND);
        int[] due = {3, 90, 99, -1, 0, -1, 0, 99, 15, 0};
        for (int what = 0; what < 10; what++) {
            Check.due("one 9, " + what, x.of(9, what), due[what]);
        }
        Check.due("what 10", x.of(9, 10), Check.BEYOND);
        Check.due("what -1", x.of(9, -1), Check.BEYOND);
        Check.due("one 10", x.of(10, 0), Check.BEYOND);
        Check.due("one -1", x.of(-1, 0), Check.BEYOND);
    }

    private static void kinds() {
        ChairDance x = new ChairDance();
        int[] leans = {7, 37, 0, 7, 14, 57};
        int[] stays = {10, 20, 10, 15, 4, 20};
        for (int kind = 0; kind < 6; kind++) {
            x.comes(kind, 0, 7);
            Check.due("kind", x.of(kind, 0), kind);
            Check.due("leans of " + kind, x.of(kind, 7), leans[kind]);
            Check.due("stays of " + kind, x.of(kind, 8), stays[kind]);
        }
    }

    private static void goes() {
        ChairDance x = new ChairDance();
        int[][] goes = {
            {1, 1, 1, 1, 1, 1, 1}, {1, 0, 1, 0, 1, 0, 1}, {2, 2, 2, 2, 2, 2, 2},
            {0, 1, 1, 0, 1, 1, 0}, {0, 1, 1, 0, 1, 1, 0}, {1, 0, 1, 0, 1, 0, 1},
        };
        for (int kind = 0; kind < 6; kind++) {
            x.comes(kind, 0, 7);
        }
        for (int second = 0; second < 7; second++) {
            for (int kind = 0; kind < 6; kind++) {
                Check.due(kind + " goes at " + second, x.of(kind, 9), goes[kind][second]);
            }
            x.seconds(1);
        }
    }

    private static void set() {
        ChairDance x = new ChairDance();
        x.seat(55, 1);
        x.comes(0, 12, 3);
        Check.due("spot was", x.set(0, 1, 99), 12);
        Check.due("spot is", x.of(0, 1), 99);
        Check.due("toes were", x.set(0, 2, 99), 3);
        Check.due("toes are", x.of(0, 2), 99);
        Check.due("none", x.set(0, 2, 0), 99);
        Check.due("all", x.set(0, 2, 99), 0);
        Check.due("will was", x.set(0, 3, 0), -1);
        Check.due("will was then", x.set(0, 3, -1), 0);
        Check.due("will is", x.of(0, 3), -1);
        int[][] wrong = {{1, 100}, {1, -1}, {2, 100}, {2, -1}, {3, 1}, {3, -2}, {0, 0}, {4, 0}, {-1, 0}};
        for (int[] w : wrong) {
            Check.due("set " + w[0] + " to " + w[1], x.set(0, w[0], w[1]), Check.BEYOND);
        }
        Check.due("no such one", x.set(1, 1, 0), Check.BEYOND);
        Check.due("no such one", x.set(-1, 1, 0), Check.BEYOND);
        x.seconds(1);
        Check.due("sits on its spot", x.of(0, 1), 55);
        Check.due("spot of a sitter", x.set(0, 1, 0), Check.STATE);
        Check.due("BEYOND ahead of STATE", x.set(0, 1, 100), Check.BEYOND);
        Check.due("toes of a sitter", x.set(0, 2, 1), 99);
        Check.due("will of a sitter", x.set(0, 3, 0), -1);
        Check.due("he stays there", x.of(0, 1), 55);
    }

    private static void turn() {
        ChairDance x = new ChairDance();
        x.seat(55, 1);
        x.comes(5, 12, 3);
        Check.due("was a cook", x.turn(0, 0), 5);
        Check.due("was a courtier", x.turn(0, 0), 0);
        x.seconds(1);
        Check.due("turns page", x.turn(0, 2), 0);
        Check.due("keeps his seat", x.of(0, 5), 0);
        Check.due("the seat keeps him", x.seatOf(0, 2), 0);
        Check.due("kind 6", x.turn(0, 6), Check.BEYOND);
        Check.due("kind -1", x.turn(0, -1), Check.BEYOND);
        Check.due("no such one", x.turn(1, 0), Check.BEYOND);
        x.seconds(9);
        Check.due("a page stays 10", x.seatOf(0, 2), 0);
        x.seconds(1);
        Check.due("and takes none", x.seatOf(0, 2), -1);
    }

    private static void as() {
        ChairDance x = new ChairDance();
        String[] under = {"0", "01", "02", "03", "034", "015"};
        for (int kind = 0; kind < 6; kind++) {
            x.comes(kind, 0, 0);
            for (int other = 0; other < 6; other++) {
                boolean is = under[kind].indexOf('0' + other) >= 0;
                Check.due(kind + " as " + other, x.as(kind, other), is ? 0 : Check.KIND);
            }
        }
        x.seat(0, 70);
        x.seconds(2);
        Check.due("coins", x.as(5, 1), 140);
        Check.due("kind 6", x.as(0, 6), Check.BEYOND);
        Check.due("kind -1", x.as(0, -1), Check.BEYOND);
        Check.due("no such one", x.as(6, 0), Check.BEYOND);
    }

    private static void far() {
        ChairDance x = new ChairDance();
        x.comes(0, 0, 9);
        x.comes(4, 37, 99);
        x.comes(2, 37, 99);
        Check.due("across", x.far(0, 99), 100 * (81 + 81) - 9);
        Check.due("below 0", x.far(1, 37), -198);
        Check.due("rows and columns", x.far(1, 45), 100 * (1 + 4) - 198);
        Check.due("a page's toes", x.far(2, 45), 500);
        Check.due("spot 100", x.far(0, 100), Check.BEYOND);
        Check.due("spot -1", x.far(0, -1), Check.BEYOND);
        Check.due("no such one", x.far(3, 0), Check.BEYOND);
    }

    private static void on() {
        ChairDance x = new ChairDance();
        for (int i = 0; i < 10; i++) {
            x.comes(i == 0 ? 2 : 0, i < 8 ? 44 : 45, 0);
        }
        Check.due("eight", x.on(44), 255);
        Check.due("two", x.on(45), 768);
        Check.due("none", x.on(46), 0);
        x.seat(44, 1);
        x.seconds(1);
        Check.due("one sits now", x.on(44), 253);
        Check.due("spot 100", x.on(100), Check.BEYOND);
        Check.due("spot -1", x.on(-1), Check.BEYOND);
    }

    private static void next() {
        ChairDance x = new ChairDance();
        x.seat(50, 1);
        x.comes(2, 50, 99);
        Check.due("no page", x.seatOf(0, 3), -1);
        x.comes(0, 53, 5);
        x.comes(0, 57, 0);
        Check.due("the nearest", x.seatOf(0, 3), 1);
        x.comes(0, 80, 5);
        Check.due("as far, as many toes: the least", x.seatOf(0, 3), 1);
        x.comes(4, 83, 0);
        x.comes(5, 53, 0);
        Check.due("leans count", x.seatOf(0, 3), 5);
        x.comes(0, 53, 50);
        Check.due("as far, more toes", x.seatOf(0, 3), 6);
        x.seconds(1);
        Check.due("not one who sits", x.seatOf(0, 3), 5);
    }
}
