/** Promises 20 to 28. */
public final class ChoicesTest {
    public static void main(String[] args) {
        spots();
        nearest();
        place();
        best();
        whoMayAsk();
        coughFor();
        twice();
        will();
        kind();
        guard();
        late();
        Check.end();
    }

    /** One seat at 44; the rival 1 is 400 from it. */
    private static ChairDance rivals() {
        ChairDance x = new ChairDance();
        x.seat(44, 10);
        x.comes(0, 4, 0);
        x.comes(0, 46, 0);
        x.comes(0, 99, 0);
        return x;
    }

    private static void spots() {
        ChairDance x = rivals();
        Check.due("the least of those as far", x.spots(0, 0), 13);
        Check.due("behind one as far", x.spots(2, 0), 9);
        Check.due("nearer than 1600", x.spots(1, 0), 45);
        x.set(2, 2, 1);
        Check.due("more toes", x.spots(2, 0), 13);
        x.set(1, 1, 44);
        x.turn(1, 5);
        Check.due("nowhere", x.spots(0, 0), 0);
        x.turn(1, 2);
        x.turn(2, 2);
        Check.due("against pages", x.spots(0, 0), 100);
        Check.due("he stays where he was", x.of(0, 1), 4);
        Check.due("no seat", x.spots(0, 1), Check.BEYOND);
        Check.due("no seat", x.spots(0, -1), Check.BEYOND);
        Check.due("nobody", x.spots(3, 0), Check.BEYOND);
        Check.due("nobody", x.spots(-1, 0), Check.BEYOND);
    }

    private static void nearest() {
        ChairDance x = rivals();
        Check.due("two steps down", x.nearest(0, 0), 24);
        Check.due("across", x.nearest(2, 0), 55);
        x.set(2, 1, 47);
        Check.due("of several the least", x.nearest(2, 0), 35);
        Check.due("his own", x.nearest(1, 0), 46);
        x.set(1, 1, 44);
        x.turn(1, 5);
        Check.due("none", x.nearest(0, 0), Check.NONE);
        Check.due("no seat", x.nearest(0, 1), Check.BEYOND);
        Check.due("nobody", x.nearest(3, 0), Check.BEYOND);
        Check.due("he stays where he was", x.of(0, 1), 4);
        ChairDance y = new ChairDance();
        y.seat(0, 1);
        y.comes(0, 0, 50);
        y.comes(0, 5, 50);
        Check.due("as near, but not the least", y.nearest(1, 0), Check.NONE);
        y.set(0, 1, 1);
        Check.due("only spot 0", y.nearest(1, 0), 0);
    }

    private static void place() {
        ChairDance x = rivals();
        x.seat(46, 7);
        x.seat(0, 1);
        x.set(1, 1, 42);
        Check.due("the one there", x.place(0, 0), 1);
        Check.due("both", x.place(0, 44), 10 + 7);
        Check.due("all three", x.place(0, 33), 10 + 7 + 1);
        Check.due("nothing", x.place(2, 99), 0);
        x.comes(0, 99, 0);
        x.seconds(1);
        Check.due("held seats count, too", x.place(3, 46), 10 + 7 + 1);
        Check.due("he stays where he was", x.of(3, 1), 99);
        Check.due("spot 100", x.place(3, 100), Check.BEYOND);
        Check.due("spot -1", x.place(3, -1), Check.BEYOND);
        Check.due("nobody", x.place(4, 0), Check.BEYOND);
    }

    private static void best() {
        ChairDance x = rivals();
        Check.due("the least of 13", x.best(0), 24);
        x.seat(99, 11);
        Check.due("worth more", x.best(0), 99);
        ChairDance y = new ChairDance();
        y.comes(0, 55, 0);
        Check.due("without seats", y.best(0), 0);
        Check.due("nobody", y.best(1), Check.BEYOND);
        Check.due("nobody", y.best(-1), Check.BEYOND);
    }

    private static void whoMayAsk() {
        ChairDance x = rivals();
        x.seconds(1);
        x.turn(0, 2);
        int[] out = {0, 1};
        for (int one : out) {
            Check.due("spots of " + one, x.spots(one, 0), Check.STATE);
            Check.due("nearest of " + one, x.nearest(one, 0), Check.STATE);
            Check.due("place of " + one, x.place(one, 0), Check.STATE);
            Check.due("best of " + one, x.best(one), Check.STATE);
            Check.due("spots BEYOND ahead", x.spots(one, 1), Check.BEYOND);
            Check.due("nearest BEYOND ahead", x.nearest(one, 1), Check.BEYOND);
            Check.due("place BEYOND ahead", x.place(one, 100), Check.BEYOND);
        }
    }

    private static void coughFor() {
        ChairDance x = new ChairDance();
        int[] worths = {5, 9, 9, 99};
        for (int s = 0; s < 4; s++) {
            x.seat(10 * s, worths[s]);
        }
        for (int i = 0; i < 3; i++) {
            x.comes(0, 10 * i, 0);
        }
        x.seconds(1);
        x.comes(0, 99, 0);
        Check.due("most worth of those that are held, the least", x.coughFor(3), 1);
        x.worth(1, 0);
        Check.due("then another", x.coughFor(3), 2);
        x.worth(0, 0);
        x.worth(2, 0);
        Check.due("worth nothing, but a seat", x.coughFor(3), 0);
        x.comes(0, 0, 0);
        Check.due("not for which another is next", x.coughFor(3), Check.NONE);
        Check.due("for the other", x.coughFor(4), 0);
        x.turn(4, 2);
        Check.due("a page gets none", x.coughFor(4), Check.NONE);
        Check.due("he sits", x.coughFor(0), Check.STATE);
        Check.due("nobody", x.coughFor(5), Check.BEYOND);
        Check.due("nobody", x.coughFor(-1), Check.BEYOND);
        Check.due("nothing changed", x.count(3), 7);
    }

    private static void twice() {
        ChairDance x = new ChairDance();
        x.seat(0, 5);
        x.seat(9, 5);
        x.comes(0, 0, 0);
        x.comes(0, 9, 0);
        Check.due("nothing is held", x.twice(0, 0), Check.NONE);
        x.seconds(1);
        Check.due("nobody would be next", x.twice(0, 0), Check.NONE);
        Check.due("up and over", x.twice(0, 1), 1);
        Check.due("the other way", x.twice(1, 0), 10);
        x.comes(0, 50, 0);
        Check.due("up and back by the second", x.twice(0, 0), 0);
        Check.due("2 to seat 0", x.twice(2, 0), 1);
        Check.due("2 to seat 1", x.twice(2, 1), 10);
        Check.due("0 to seat 1", x.twice(0, 1), 1);
        Check.due("nothing changed", x.seatOf(0, 2), 0);
        Check.due("no seat", x.twice(0, 2), Check.BEYOND);
        Check.due("nobody", x.twice(3, 0), Check.BEYOND);
        ChairDance y = new ChairDance();
        y.seat(0, 5);
        y.seat(9, 5);
        y.comes(0, 0, 0);
        y.comes(0, 9, 0);
        y.seconds(1);
        y.comes(0, 19, 0);
        y.comes(0, 0, 50);
        y.comes(0, 0, 40);
        Check.due("he that holds it may keep it", y.twice(0, 0), 11);
    }

    private static void will() {
        ChairDance x = new ChairDance();
        x.seat(0, 50);
        x.seat(1, 0);
        x.comes(1, 0, 0);
        x.comes(1, 1, 0);
        x.comes(0, 3, 0);
        x.comes(0, 55, 0);
        x.set(3, 3, 1);
        Check.due("too short for any", x.will(3, 20), -1);
        Check.due("both as good: the least", x.will(3, 21), 0);
        Check.due("wills stay", x.of(3, 3), 1);
        x.set(2, 1, 1);
        x.set(2, 2, 1);
        Check.due("only on the seat itself", x.will(3, 21), 0);
        Check.due("near enough without any", x.will(2, 21), -1);
        Check.due("0 seconds", x.will(0, 0), Check.BEYOND);
        Check.due("101 seconds", x.will(0, 101), Check.BEYOND);
        Check.due("nobody", x.will(4, 1), Check.BEYOND);
        Check.due("nobody", x.will(-1, 1), Check.BEYOND);
        Check.due("100 seconds", x.will(1, 100) >= -1 ? 1 : 0, 1);
        Check.due("1 second", x.will(0, 1), -1);
    }

    private static void kind() {
        ChairDance x = new ChairDance();
        x.seat(0, 10);
        x.comes(4, 0, 0);
        x.comes(0, 0, 0);
        x.seconds(1);
        Check.due("as long for all", x.kind(0, 3), 0);
        Check.due("longer than 4", x.kind(0, 9), 0);
        Check.due("longer than 10", x.kind(0, 12), 1);
        Check.due("he stays what he was", x.of(0, 0), 4);
        ChairDance y = new ChairDance();
        y.seat(0, 10);
        y.comes(0, 0, 49);
        y.comes(2, 0, 0);
        Check.due("only a cook leans so much", y.kind(1, 1), 5);
        y.set(0, 2, 29);
        Check.due("a fat one is enough", y.kind(1, 1), 1);
        y.set(0, 2, 50);
        y.set(1, 2, 26);
        Check.due("fat by 56", y.kind(1, 1), 1);
        y.set(1, 2, 99);
        y.set(0, 2, 99);
        y.turn(0, 1);
        Check.due("twice the toes", y.kind(1, 1), 4);
        Check.due("0 seconds", y.kind(0, 0), Check.BEYOND);
        Check.due("101 seconds", y.kind(0, 101), Check.BEYOND);
        Check.due("nobody", y.kind(2, 1), Check.BEYOND);
        Check.due("nobody", y.kind(-1, 1), Check.BEYOND);
    }

    private static void guard() {
        ChairDance x = new ChairDance();
        x.seat(44, 5);
        x.seat(99, 5);
        x.comes(0, 44, 0);
        x.comes(0, 40, 0);
        x.comes(2, 77, 0);
        x.set(1, 3, 0);
        Check.due("nobody holds it", x.guard(2, 0), Check.STATE);
        x.seconds(1);
        Check.due("his own", x.guard(2, 0), 77);
        x.seconds(9);
        Check.due("his own when the holder is about to rise", x.guard(2, 0), 77);
        Check.due("no page", x.guard(1, 0), Check.STATE);
        Check.due("nobody", x.guard(3, 0), Check.BEYOND);
        Check.due("nobody", x.guard(-1, 0), Check.BEYOND);
        Check.due("no seat", x.guard(2, 2), Check.BEYOND);
        Check.due("BEYOND ahead of STATE", x.guard(1, 2), Check.BEYOND);
        x.turn(0, 2);
        Check.due("a page who sits", x.guard(0, 0), Check.STATE);
    }

    private static void late() {
        ChairDance x = new ChairDance();
        x.seat(0, 1);
        x.comes(0, 0, 0);
        x.comes(0, 0, 0);
        x.comes(2, 5, 0);
        for (int i = 0; i < 49; i++) {
            x.seconds(200);
        }
        x.seconds(99);
        Check.due("second", x.now(0), 9899);
        Check.due("will to the last", x.will(2, 100), -1);
        Check.due("guard to the last", x.guard(2, 0), 5);
        x.seconds(1);
        Check.due("will", x.will(2, 100), Check.STATE);
        Check.due("kind", x.kind(2, 100), Check.STATE);
        Check.due("guard", x.guard(2, 0), Check.STATE);
        Check.due("will to the last", x.will(2, 99), -1);
        Check.due("kind to the last", x.kind(2, 99) >= 0 ? 1 : 0, 1);
        Check.due("will BEYOND ahead", x.will(3, 100), Check.BEYOND);
        Check.due("kind BEYOND ahead", x.kind(3, 100), Check.BEYOND);
        Check.due("guard BEYOND ahead", x.guard(2, 1), Check.BEYOND);
    }
}
