import java.util.function.Consumer;

/** The boundary cases that promises 20 to 28 name, a test for each sentence. */
public final class BoundsOfChoicesTest {
    public static void main(String[] args) {
        beyondOne();
        beyondSeat();
        stateHeSitsOrIsAPage();
        beyondAheadOfState();
        spotsNoneAndAll();
        nearestNone();
        nearestOfSeveral();
        placeBeyondSpot();
        placeNothingAndAll();
        bestOfSeveral();
        bestWithoutSeats();
        coughForStateHeSits();
        coughForNone();
        coughForOfSeveral();
        twiceNone();
        twiceFirstAndLast();
        twiceBySeatsThatAreHeld();
        willBeyondN();
        willStateAbove9999();
        willOfSeveral();
        kindBeyondN();
        kindStateAbove9999();
        kindOfSeveral();
        guardState();
        guardStateAbove9899();
        guardOfSeveral();
        Check.end();
    }

    private static void beyondOne() {
        Twins.CallWith[] calls = {
            (x, v) -> x.spots(v, 0), (x, v) -> x.nearest(v, 0), (x, v) -> x.place(v, 0), (x, v) -> x.best(v),
            (x, v) -> x.coughFor(v), (x, v) -> x.twice(v, 0), (x, v) -> x.will(v, 1), (x, v) -> x.kind(v, 1),
            (x, v) -> x.guard(v, 0),
        };
        for (int i = 0; i < calls.length; i++) {
            Twins.beyondOutside("one of call " + (20 + i), Halls::small, 0, 3, calls[i]);
            Twins.beyondOutside("one of a full hall of call " + (20 + i), Halls::full, 0, 9, calls[i]);
        }
        Twins.asked("the last one: place", Halls::full, 0, x -> x.place(9, 99));
        Twins.asked("the last one: best", Halls::full, 99, x -> x.place(9, x.best(9)) > 0 ? 99 : 0);
        Twins.asked("the last one: kind", Halls::full, 0, x -> x.kind(9, 1));
        Twins.asked("the last one: will", Halls::full, -1, x -> x.will(9, 1));
    }

    private static void beyondSeat() {
        Twins.CallWith[] calls = {
            (x, v) -> x.spots(2, v), (x, v) -> x.nearest(2, v), (x, v) -> x.twice(2, v), (x, v) -> x.guard(1, v),
        };
        Twins.CallWith[] inAFullHall = {
            (x, v) -> x.spots(9, v), (x, v) -> x.nearest(9, v), (x, v) -> x.twice(9, v), (x, v) -> x.guard(8, v),
        };
        for (int i = 0; i < calls.length; i++) {
            Twins.beyondOutside("seat of call " + i, Halls::small, 0, 1, calls[i]);
            Twins.beyondOutside("seat of a full hall of call " + i, Halls::full, 0, 5, inAFullHall[i]);
        }
        Twins.asked("the last seat: spots", Halls::small, 100, x -> x.spots(2, 1));
        Twins.asked("the last seat: nearest", Halls::small, 61, x -> x.nearest(2, 1));
        Twins.asked("the last seat: guard", Halls::small, 40, x -> x.guard(1, 1));
        Twins.asked("the last seat: guard in a full hall", Halls::full, 98, x -> x.guard(8, 5));
    }

    /** In the small hall 0 and 3 sit, 1 is a page. */
    private static void stateHeSitsOrIsAPage() {
        int[] out = {0, 1, 3};
        for (int o : out) {
            Twins.refused("spots of " + o, Halls::small, Check.STATE, x -> x.spots(o, 0));
            Twins.refused("nearest of " + o, Halls::small, Check.STATE, x -> x.nearest(o, 0));
            Twins.refused("place of " + o, Halls::small, Check.STATE, x -> x.place(o, 0));
            Twins.refused("best of " + o, Halls::small, Check.STATE, x -> x.best(o));
        }
        Consumer<ChairDance> pageSits = x -> {
            Halls.small(x);
            x.turn(0, 2);
        };
        Twins.refused("spots of a page who sits", pageSits, Check.STATE, x -> x.spots(0, 0));
        Twins.refused("nearest of a page who sits", pageSits, Check.STATE, x -> x.nearest(0, 0));
        Twins.refused("place of a page who sits", pageSits, Check.STATE, x -> x.place(0, 0));
        Twins.refused("best of a page who sits", pageSits, Check.STATE, x -> x.best(0));
        ChairDance x = Twins.made(Halls::small);
        x.turn(1, 0);
        x.turn(2, 2);
        Check.due("a page no more", x.spots(1, 0), 100);
        Check.due("now a page", x.spots(2, 0), Check.STATE);
    }

    private static void beyondAheadOfState() {
        Twins.refused("spots: BEYOND ahead", Halls::small, Check.BEYOND, x -> x.spots(0, 2));
        Twins.refused("nearest: BEYOND ahead", Halls::small, Check.BEYOND, x -> x.nearest(1, -1));
        Twins.refused("place: BEYOND ahead", Halls::small, Check.BEYOND, x -> x.place(0, 100));
        Twins.refused("guard: BEYOND ahead", Halls::small, Check.BEYOND, x -> x.guard(0, 2));
    }

    // ---- promise 20

    /** A rival on the seat's spot, who leans as much as can be. */
    private static void hopeless(ChairDance x) {
        x.seat(0, 9);
        x.comes(4, 0, 99);
        x.comes(0, 0, 99);
    }

    private static void spotsNoneAndAll() {
        Twins.asked("spots: none", BoundsOfChoicesTest::hopeless, 0, x -> x.spots(1, 0));
        Twins.asked("spots: all", Halls::small, 100, x -> x.spots(2, 0));
        ChairDance x = new ChairDance();
        x.seat(0, 9);
        x.comes(0, 0, 9);
        x.comes(0, 99, 9);
        Check.due("spots: as far is not enough for the second", x.spots(1, 0), 0);
        Check.due("spots: as far is enough for the first", x.spots(0, 0), 100);
        x.set(1, 2, 10);
        Check.due("spots: his own one alone, in a corner", x.spots(1, 0), 1);
        Twins.asked("spots: of a seat that is held", Halls::full, 1, y -> y.spots(7, 0) > 0 ? 1 : 0);
    }

    // ---- promise 21

    private static void nearestNone() {
        Twins.refused("nearest: none", BoundsOfChoicesTest::hopeless, Check.NONE, x -> x.nearest(1, 0));
        Twins.refused("nearest: STATE ahead of NONE", x -> {
            hopeless(x);
            x.turn(1, 2);
        }, Check.STATE, x -> x.nearest(1, 0));
    }

    private static void nearestOfSeveral() {
        Twins.asked("nearest: his own", Halls::small, 61, x -> x.nearest(2, 0));
        ChairDance x = new ChairDance();
        x.seat(55, 1);
        x.comes(0, 53, 0);
        x.comes(0, 58, 0);
        Check.due("nearest: two steps, not three", x.nearest(1, 0), 46);
        x.set(1, 1, 88);
        Check.due("nearest: across", x.nearest(1, 0), 66);
        x.set(1, 1, 85);
        Check.due("nearest: of three as near the least", x.nearest(1, 0), 64);
        ChairDance y = new ChairDance();
        y.seat(99, 1);
        y.comes(0, 98, 0);
        y.comes(0, 0, 0);
        Check.due("nearest: the last spot alone", y.nearest(1, 0), 99);
        ChairDance z = new ChairDance();
        z.seat(0, 1);
        z.comes(0, 1, 0);
        z.comes(0, 99, 0);
        Check.due("nearest: the first spot alone", z.nearest(1, 0), 0);
    }

    // ---- promise 22

    private static void placeBeyondSpot() {
        Twins.beyondOutside("place: spot", Halls::small, 0, 99, (x, v) -> x.place(2, v));
        Twins.asked("place: spot 0", Halls::small, 30, x -> x.place(2, 0));
        Twins.asked("place: spot 99", Halls::small, 30, x -> x.place(2, 99));
    }

    private static void placeNothingAndAll() {
        Twins.asked("place: without seats", x -> x.comes(0, 0, 0), 0, x -> x.place(0, 0));
        Twins.asked("place: nothing", BoundsOfChoicesTest::hopeless, 0, x -> x.place(1, 0));
        ChairDance x = new ChairDance();
        for (int s = 0; s < 6; s++) {
            x.seat(s, 99);
        }
        x.comes(0, 99, 0);
        Check.due("place: all six", x.place(0, 99), 594);
        x.worth(5, 0);
        Check.due("place: one is worth nothing", x.place(0, 99), 495);
        x.comes(0, 2, 0);
        Check.due("place: those past the middle", x.place(0, 4), 99 + 99);
        Check.due("place: he stays where he is", x.of(0, 1), 99);
    }

    // ---- promise 23

    private static void bestOfSeveral() {
        Twins.asked("best: all are worth as much", Halls::small, 0, x -> x.best(2));
        Twins.asked("best: none is worth anything", BoundsOfChoicesTest::hopeless, 0, x -> x.best(1));
        ChairDance x = new ChairDance();
        x.seat(99, 1);
        x.comes(0, 98, 0);
        x.comes(0, 0, 0);
        Check.due("best: the last spot", x.best(1), 99);
        x.worth(0, 0);
        Check.due("best: a seat worth nothing", x.best(1), 0);
        ChairDance y = new ChairDance();
        y.seat(20, 7);
        y.seat(79, 7);
        y.comes(0, 30, 0);
        y.comes(0, 69, 0);
        y.comes(0, 55, 0);
        Check.due("best: of two the least", y.best(2), 20);
        y.worth(1, 8);
        Check.due("best: worth one more", y.best(2), 79);
    }

    private static void bestWithoutSeats() {
        Twins.asked("best: without seats", x -> x.comes(0, 55, 0), 0, x -> x.best(0));
    }

    // ---- promise 24

    private static void coughForStateHeSits() {
        Twins.refused("coughFor: he sits", Halls::small, Check.STATE, x -> x.coughFor(0));
        Twins.refused("coughFor: the last sits", Halls::small, Check.STATE, x -> x.coughFor(3));
        Twins.refused("coughFor: STATE ahead of NONE", x -> {
            x.seat(0, 1);
            x.comes(0, 0, 0);
            x.seconds(1);
        }, Check.STATE, x -> x.coughFor(0));
    }

    private static void coughForNone() {
        Twins.refused("coughFor: no seats", x -> x.comes(0, 0, 0), Check.NONE, x -> x.coughFor(0));
        Twins.refused("coughFor: nobody holds any", x -> {
            x.comes(0, 0, 0);
            x.seat(0, 9);
        }, Check.NONE, x -> x.coughFor(0));
        Twins.refused("coughFor: a page", Halls::small, Check.NONE, x -> x.coughFor(1));
        Twins.refused("coughFor: another is next", x -> {
            Halls.small(x);
            x.comes(5, 26, 99);
        }, Check.NONE, x -> x.coughFor(2));
    }

    private static void coughForOfSeveral() {
        Twins.asked("coughFor: the greatest worth", Halls::small, 1, x -> x.coughFor(2));
        ChairDance x = Twins.made(Halls::small);
        x.worth(0, 20);
        Check.due("coughFor: of several the least", x.coughFor(2), 0);
        x.worth(0, 0);
        x.worth(1, 0);
        Check.due("coughFor: worth nothing, but a seat", x.coughFor(2), 0);
        x.seat(99, 99);
        Check.due("coughFor: not one that nobody holds", x.coughFor(2), 0);
        Twins.asked("coughFor: the last of six", y -> {
            Halls.full(y);
            y.worth(0, 98);
            y.worth(1, 98);
            y.worth(2, 98);
            y.worth(3, 98);
            y.worth(4, 98);
        }, 5, y -> y.coughFor(7));
    }

    // ---- promise 25

    private static void twiceNone() {
        Twins.refused("twice: nobody holds any", x -> {
            x.comes(0, 0, 0);
            x.seat(0, 9);
        }, Check.NONE, x -> x.twice(0, 0));
        Twins.refused("twice: a page", Halls::small, Check.NONE, x -> x.twice(1, 0));
        Twins.refused("twice: he rises, and nobody is next", x -> {
            x.comes(0, 0, 0);
            x.seat(0, 9);
            x.seconds(1);
        }, Check.NONE, x -> x.twice(0, 0));
    }

    /** Only the two coughs at seat 5 bring 7 to it: 6 is next for it first, 8 for all others. */
    private static void onlyTheLast(ChairDance x) {
        for (int s = 0; s < 6; s++) {
            x.seat(s < 5 ? s : 99, 1);
            x.comes(0, s < 5 ? s : 99, 0);
        }
        x.seconds(1);
        x.comes(4, 99, 99);
        x.comes(4, 98, 99);
        x.comes(0, 2, 0);
    }

    private static void twiceFirstAndLast() {
        Twins.asked("twice: the last there can be", BoundsOfChoicesTest::onlyTheLast, 55, x -> x.twice(7, 5));
        Twins.asked("twice: up and back", x -> {
            x.seat(0, 9);
            x.comes(0, 0, 0);
            x.seconds(1);
            x.comes(0, 5, 0);
        }, 0, x -> x.twice(0, 0));
        Twins.asked("twice: of several the first", BoundsOfChoicesTest::onlyTheLast, 5, x -> x.twice(6, 5));
    }

    private static void twiceBySeatsThatAreHeld() {
        Consumer<ChairDance> two = x -> {
            x.seat(0, 9);
            x.seat(9, 9);
            x.comes(0, 0, 0);
            x.comes(0, 9, 0);
            x.seconds(1);
            x.turn(1, 2);
        };
        Twins.asked("twice: both held", two, 1, x -> x.twice(0, 1));
        Consumer<ChairDance> one = x -> {
            two.accept(x);
            x.cough(1);
        };
        Twins.refused("twice: nobody holds the second", one, Check.NONE, x -> x.twice(0, 1));
        Twins.refused("twice: he holds it, but one cough is not two", one, Check.NONE, x -> x.twice(0, 0));
    }

    // ---- promises 26 and 27

    private static void willBeyondN() {
        Twins.beyondOutside("will: n", Halls::small, 1, 100, (x, v) -> x.will(2, v));
        Twins.asked("will: n 1", Halls::small, -1, x -> x.will(2, 1));
        willIsAsTried(Halls::small, 100);
        willIsAsTried(Halls::small, 99);
        willIsAsTried(Halls::full, 100);
    }

    private static void willIsAsTried(Consumer<ChairDance> hall, int n) {
        ChairDance all = Twins.made(hall);
        for (int one = 0; one < all.count(0); one++) {
            int who = one;
            int due = -1;
            int most = -1;
            for (int seat = -1; seat < all.count(1); seat++) {
                ChairDance tried = Twins.made(hall);
                tried.set(one, 3, seat);
                tried.seconds(n);
                if (tried.of(one, 4) > most) {
                    most = tried.of(one, 4);
                    due = seat;
                }
            }
            Twins.asked("will: as tried, " + one + " on " + n, hall, due, x -> x.will(who, n));
        }
    }

    private static void willStateAbove9999() {
        Twins.refused("will: 100 at 9900", Halls.lateAt(9900), Check.STATE, x -> x.will(0, 100));
        Twins.refused("will: 1 at 9999", Halls.lateAt(9999), Check.STATE, x -> x.will(0, 1));
        Twins.refused("will: BEYOND one ahead of STATE", Halls.lateAt(9999), Check.BEYOND, x -> x.will(2, 1));
        Twins.refused("will: BEYOND n ahead of STATE", Halls.lateAt(9999), Check.BEYOND, x -> x.will(0, 101));
        Twins.asked("will: 100 at 9899", Halls.lateAt(9899), -1, x -> x.will(0, 100));
        Twins.asked("will: 99 at 9900", Halls.lateAt(9900), -1, x -> x.will(0, 99));
        Twins.asked("will: 1 at 9998", Halls.lateAt(9998), -1, x -> x.will(0, 1));
    }

    /** Two fat ones hold the seats up to second 20; 2 gets one then if he is nearer than 3, 300 off. */
    private static ChairDance walker() {
        ChairDance x = new ChairDance();
        x.seat(0, 5);
        x.seat(9, 5);
        x.comes(1, 0, 99);
        x.comes(1, 9, 99);
        x.seconds(1);
        x.comes(0, 95, 0);
        return x;
    }

    private static void willOfSeveral() {
        Twins.asked("will: without seats", x -> x.comes(0, 0, 0), -1, x -> x.will(0, 100));
        Check.due("will: as good with any", walker().will(2, 19), -1);
        Check.due("will: he gets one without any", walker().will(2, 30), -1);
        ChairDance x = walker();
        x.comes(0, 13, 0);
        x.comes(0, 16, 0);
        Check.due("will: as good with both, better than with none", x.will(2, 20), 0);
        x.worth(1, 6);
        Check.due("will: better with the last", x.will(2, 20), 1);
        Check.due("will: too short for any", x.will(2, 19), -1);
    }

    private static void kindBeyondN() {
        Twins.beyondOutside("kind: n", Halls::small, 1, 100, (x, v) -> x.kind(2, v));
        Twins.asked("kind: n 1", Halls::small, 0, x -> x.kind(2, 1));
        kindIsAsTried(Halls::small, 100);
        kindIsAsTried(Halls::small, 99);
        kindIsAsTried(Halls::full, 100);
    }

    private static void kindIsAsTried(Consumer<ChairDance> hall, int n) {
        ChairDance all = Twins.made(hall);
        for (int one = 0; one < all.count(0); one++) {
            int who = one;
            int due = 0;
            int most = -1;
            for (int kind = 0; kind < 6; kind++) {
                ChairDance tried = Twins.made(hall);
                tried.turn(one, kind);
                tried.seconds(n);
                if (tried.of(one, 4) > most) {
                    most = tried.of(one, 4);
                    due = kind;
                }
            }
            Twins.asked("kind: as tried, " + one + " on " + n, hall, due, x -> x.kind(who, n));
        }
    }

    private static void kindStateAbove9999() {
        Twins.refused("kind: 100 at 9900", Halls.lateAt(9900), Check.STATE, x -> x.kind(0, 100));
        Twins.refused("kind: 1 at 9999", Halls.lateAt(9999), Check.STATE, x -> x.kind(0, 1));
        Twins.refused("kind: BEYOND one ahead of STATE", Halls.lateAt(9999), Check.BEYOND, x -> x.kind(2, 1));
        Twins.refused("kind: BEYOND n ahead of STATE", Halls.lateAt(9999), Check.BEYOND, x -> x.kind(0, 101));
        Twins.asked("kind: 100 at 9899", Halls.emptyAndOneAt(9899), 0, x -> x.kind(0, 100));
        Twins.asked("kind: 99 at 9900", Halls.emptyAndOneAt(9900), 0, x -> x.kind(0, 99));
        Twins.asked("kind: 1 at 9998", Halls.emptyAndOneAt(9998), 0, x -> x.kind(0, 1));
    }

    private static void kindOfSeveral() {
        Twins.asked("kind: without seats", x -> x.comes(5, 0, 0), 0, x -> x.kind(0, 100));
        Twins.asked("kind: any but a page", x -> {
            x.seat(0, 1);
            x.comes(2, 0, 0);
        }, 0, x -> x.kind(0, 1));
        Twins.asked("kind: the last there is", x -> {
            x.seat(0, 1);
            x.comes(0, 0, 49);
            x.comes(2, 0, 0);
        }, 5, x -> x.kind(1, 1));
    }

    // ---- promise 28

    private static void guardState() {
        Twins.refused("guard: no page", Halls::small, Check.STATE, x -> x.guard(2, 0));
        Twins.refused("guard: no page, and he sits", Halls::small, Check.STATE, x -> x.guard(0, 0));
        Twins.refused("guard: a page who sits", x -> {
            Halls.small(x);
            x.turn(0, 2);
        }, Check.STATE, x -> x.guard(0, 0));
        Twins.refused("guard: nobody holds it", x -> {
            Halls.small(x);
            x.seat(99, 9);
        }, Check.STATE, x -> x.guard(1, 2));
    }

    private static void guardStateAbove9899() {
        Consumer<ChairDance> at9899 = x -> heldAt(x, 9899);
        Twins.asked("guard: at 9899", at9899, 40, x -> x.guard(1, 0));
        Twins.refused("guard: at 9900", x -> heldAt(x, 9900), Check.STATE, x -> x.guard(1, 0));
        Twins.refused("guard: at 9999", x -> heldAt(x, 9999), Check.STATE, x -> x.guard(1, 0));
        Twins.refused("guard: BEYOND ahead of STATE", x -> heldAt(x, 9900), Check.BEYOND, x -> x.guard(1, 1));
    }

    /** Seat 0 is always held, by 0 or by 2; 1 is a page on 40. */
    private static void heldAt(ChairDance x, int second) {
        x.seat(44, 10);
        x.comes(0, 44, 3);
        x.comes(2, 40, 5);
        x.comes(0, 44, 0);
        Halls.goTo(x, second);
    }

    private static void guardOfSeveral() {
        Twins.asked("guard: his own", Halls::small, 40, x -> x.guard(1, 0));
        int[] own = {0, 44, 99};
        for (int spot : own) {
            Twins.asked("guard: his own, " + spot, x -> {
                Halls.small(x);
                x.set(1, 1, spot);
            }, spot, x -> x.guard(1, 0));
        }
    }
}
