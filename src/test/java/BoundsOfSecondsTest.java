import java.util.function.Consumer;

/** The boundary cases that promises 12 to 19 name, a test for each sentence. */
public final class BoundsOfSecondsTest {
    public static void main(String[] args) {
        coughBeyond();
        coughStateNobodyHoldsIt();
        coughNobodyIsNext();
        coughInAFullHall();
        secondsBeyond();
        secondsStateAbove9999();
        secondsInAnEmptyHall();
        secondsHowManySeats();
        stepsUpToTheSeat();
        stepsAtTheEdges();
        stepsAgainstPages();
        staysAsLong();
        nowBeyond();
        nowEmptyAndFull();
        onBeyondN();
        onStateAbove9999();
        onIsAsSecondsGo();
        holderBeyond();
        whereBeyond();
        coinsBeyond();
        getsBeyond();
        getsFrom0To200();
        getsStateAbove9799();
        getsNone();
        richBeyond();
        richNone();
        richOfSeveral();
        Check.end();
    }

    // ---- promise 12

    private static void coughBeyond() {
        Twins.beyondOutside("cough: seat", Halls::small, 0, 1, (x, v) -> x.cough(v));
        Twins.beyondOutside("cough: seat of a full hall", Halls::full, 0, 5, (x, v) -> x.cough(v));
        Check.due("cough: the first", Twins.made(Halls::small).cough(0), 2);
        Check.due("cough: the last", Twins.made(Halls::small).cough(1), 2);
    }

    private static void coughStateNobodyHoldsIt() {
        Consumer<ChairDance> unheld = x -> {
            x.comes(0, 5, 0);
            x.seat(5, 1);
        };
        Twins.refused("cough: nobody holds it", unheld, Check.STATE, x -> x.cough(0));
        Twins.refused("cough: BEYOND, nobody holds any", unheld, Check.BEYOND, x -> x.cough(1));
        ChairDance x = Twins.made(unheld);
        x.seconds(1);
        Check.due("cough: now he holds it", x.cough(0), -1);
        Check.due("cough: now nobody does", x.cough(0), Check.STATE);
    }

    private static void coughNobodyIsNext() {
        ChairDance x = new ChairDance();
        x.seat(5, 7);
        x.comes(0, 95, 9);
        x.seconds(3);
        x.comes(2, 5, 9);
        Check.due("cough: but a page stands", x.cough(0), -1);
        Check.due("cough: held by nobody", x.seatOf(0, 2), -1);
        Check.due("cough: one empty seat", x.now(2), 1);
        Check.due("cough: he stands on the spot of the seat", x.on(5), 3);
        Check.due("cough: he has not sat", x.of(0, 6), 0);
        Check.due("cough: he keeps his coins", x.of(0, 4), 21);
        Check.due("cough: no second went", x.now(0), 3);
        Check.due("cough: then it falls to him again", x.seconds(1), 1);
        Check.due("cough: he has sat 1", x.of(0, 6), 1);
    }

    private static void coughInAFullHall() {
        ChairDance x = Twins.made(Halls::full);
        Check.due("cough: seat 5 falls to 7", x.cough(5), 7);
        Check.due("cough: 6 stands on 55", x.on(55), 1 << 6);
        Check.due("cough: seat 0 falls to 6", x.cough(0), 6);
        Check.due("cough: still six sit", x.now(1), 6);
        Check.due("cough: none is empty", x.now(2), 0);
    }

    // ---- promise 13

    private static void secondsBeyond() {
        Twins.beyondOutside("seconds: n", Halls::small, 1, 200, (x, v) -> x.seconds(v));
        ChairDance x = Twins.made(Halls::small);
        Check.due("seconds: 1", x.seconds(1), 0);
        Check.due("seconds: second 3", x.now(0), 3);
        x.seconds(200);
        Check.due("seconds: second 203", x.now(0), 203);
    }

    private static void secondsStateAbove9999() {
        Twins.refused("seconds: 200 at 9800", Halls.lateAt(9800), Check.STATE, x -> x.seconds(200));
        Twins.refused("seconds: 2 at 9998", Halls.lateAt(9998), Check.STATE, x -> x.seconds(2));
        Twins.refused("seconds: 1 at 9999", Halls.lateAt(9999), Check.STATE, x -> x.seconds(1));
        Twins.refused("seconds: 200 at 9999", Halls.lateAt(9999), Check.STATE, x -> x.seconds(200));
        Twins.refused("seconds: BEYOND ahead of STATE", Halls.lateAt(9999), Check.BEYOND, x -> x.seconds(201));
        Twins.refused("seconds: BEYOND ahead of STATE", Halls.lateAt(9999), Check.BEYOND, x -> x.seconds(0));
        int[][] last = {{9799, 200}, {9800, 199}, {9998, 1}};
        for (int[] l : last) {
            ChairDance x = Twins.made(Halls.lateAt(l[0]));
            Check.due("seconds: " + l[1] + " at " + l[0] + " go", x.seconds(l[1]) < 0 ? 1 : 0, 0);
            Check.due("seconds: second 9999", x.now(0), 9999);
        }
    }

    private static void secondsInAnEmptyHall() {
        ChairDance x = new ChairDance();
        Check.due("seconds: no seats, nobody", x.seconds(200), 0);
        x.comes(0, 5, 0);
        Check.due("seconds: no seats", x.seconds(1), 0);
        ChairDance y = new ChairDance();
        y.seat(5, 9);
        Check.due("seconds: nobody", y.seconds(1), 0);
        Check.due("seconds: held by nobody", y.seatOf(0, 2), -1);
        y.comes(2, 5, 9);
        Check.due("seconds: but a page", y.seconds(1), 0);
        Check.due("seconds: no coins", y.now(3), 0);
    }

    private static void secondsHowManySeats() {
        ChairDance x = new ChairDance();
        for (int s = 0; s < 6; s++) {
            x.seat(s, 1);
        }
        for (int i = 0; i < 6; i++) {
            x.comes(0, i, 0);
        }
        Check.due("seconds: all six", x.seconds(1), 6);
        Check.due("seconds: none", x.seconds(9), 0);
        ChairDance y = new ChairDance();
        y.seat(0, 1);
        y.comes(4, 0, 0);
        y.comes(4, 99, 0);
        y.seconds(1);
        Check.due("seconds: to the other", y.seconds(4), 1);
        Check.due("seconds: to the other and back", y.seconds(8), 0);
        y.turn(0, 2);
        y.turn(1, 2);
        Check.due("seconds: to nobody", y.seconds(200), 1);
        Check.due("seconds: held by nobody", y.seatOf(0, 2), -1);
        Check.due("seconds: by nobody still", y.seconds(200), 0);
    }

    // ---- how a second goes

    /** Seat 0 on the spot, held by one who wants none; then one of a kind who wants it. */
    private static ChairDance goer(int seat, int kind, int from) {
        ChairDance x = new ChairDance();
        x.seat(seat, 0);
        x.comes(1, seat, 99);
        x.comes(kind, from, 0);
        x.set(1, 3, 0);
        return x;
    }

    private static void stepsUpToTheSeat() {
        Check.due("step: he is there", goer(55, 0, 55).where(1, 1), 55);
        Check.due("step: one ahead of it", goer(55, 0, 54).where(1, 1), 55);
        Check.due("step: not past it", goer(55, 0, 54).where(1, 2), 55);
        Check.due("step: a page, one ahead of it", goer(55, 2, 54).where(1, 1), 55);
        Check.due("step: a page, two ahead of it", goer(55, 2, 53).where(1, 1), 55);
        Check.due("step: a page, three ahead of it", goer(55, 2, 52).where(1, 1), 54);
        Check.due("step: along a row", goer(55, 0, 50).where(1, 1), 51);
        Check.due("step: along a column", goer(55, 0, 95).where(1, 1), 85);
        Check.due("step: both", goer(55, 0, 92).where(1, 1), 83);
        Check.due("step: fat at second 0", goer(55, 1, 50).where(1, 1), 51);
        Check.due("step: fat at second 1", goer(55, 1, 50).where(1, 2), 51);
        Check.due("step: stooled at second 0", goer(55, 3, 50).where(1, 1), 50);
        Check.due("step: stooled at second 2", goer(55, 3, 50).where(1, 3), 52);
        Check.due("step: stooled at second 3", goer(55, 3, 50).where(1, 4), 52);
        Check.due("step: one who sits goes nowhere", goer(55, 0, 50).where(0, 5), 55);
        ChairDance x = goer(55, 0, 50);
        x.set(1, 3, -1);
        Check.due("step: none without a will", x.where(1, 20), 50);
    }

    private static void stepsAtTheEdges() {
        int[][] due = {
            {0, 99, 88}, {99, 0, 11}, {9, 90, 81}, {90, 9, 18}, {10, 9, 18}, {9, 10, 1}, {0, 9, 8}, {99, 90, 91},
        };
        for (int[] d : due) {
            Check.due("step: from " + d[1] + " to " + d[0], goer(d[0], 0, d[1]).where(1, 1), d[2]);
            Check.due("step: there from " + d[1], goer(d[0], 0, d[1]).where(1, 9), d[0]);
        }
    }

    private static void stepsAgainstPages() {
        ChairDance x = goer(55, 0, 50);
        x.comes(2, 51, 0);
        Check.due("page: in the way", x.where(1, 9), 50);
        x.set(2, 1, 50);
        Check.due("page: on his own spot is not", x.where(1, 1), 51);
        x.set(2, 1, 52);
        Check.due("page: one further", x.where(1, 9), 51);
        x.set(2, 1, 41);
        Check.due("page: beside is not", x.where(1, 9), 55);
        x.set(2, 1, 55);
        Check.due("page: on the seat's spot", x.where(1, 9), 54);
        x.turn(2, 0);
        Check.due("page: no page", x.where(1, 9), 55);
        ChairDance y = goer(55, 2, 50);
        y.comes(2, 52, 0);
        Check.due("page: the second step of a page", y.where(1, 1), 51);
        ChairDance z = goer(55, 0, 53);
        z.seconds(1);
        Check.due("page: one ahead of the seat", z.of(1, 1), 54);
        z.turn(0, 2);
        Check.due("page: one who sits is in nobody's way", z.where(1, 1), 55);
    }

    private static void staysAsLong() {
        int[] stays = {10, 20, 10, 15, 4, 20};
        for (int kind = 0; kind < 6; kind++) {
            ChairDance x = new ChairDance();
            x.seat(0, 1);
            x.comes(0, 0, 0);
            x.seconds(1);
            x.turn(0, kind);
            x.comes(0, 99, 0);
            Check.due("stays: " + kind + " sits to the last", x.holder(0, stays[kind] - 1), 0);
            Check.due("stays: " + kind + " has risen", x.holder(0, stays[kind]), 1);
        }
        ChairDance x = new ChairDance();
        x.seat(0, 1);
        x.comes(1, 0, 0);
        x.seconds(20);
        x.turn(0, 4);
        Check.due("stays: longer than he stays now", x.of(0, 6), 20);
        x.seconds(1);
        Check.due("stays: he rises at once", x.of(0, 5), -1);
    }

    // ---- promise 14

    private static void nowBeyond() {
        Twins.beyondOutside("now: what", Halls::small, 0, 3, (x, v) -> x.now(v));
        Twins.asked("now: 0", Halls::small, 2, x -> x.now(0));
        Twins.asked("now: 1", Halls::small, 2, x -> x.now(1));
        Twins.asked("now: 2", Halls::small, 0, x -> x.now(2));
        Twins.asked("now: 3", Halls::small, 60, x -> x.now(3));
    }

    private static void nowEmptyAndFull() {
        for (int what = 0; what < 4; what++) {
            int w = what;
            Twins.asked("now: empty, " + what, Halls::empty, 0, x -> x.now(w));
        }
        Twins.asked("now: six sit", Halls::full, 6, x -> x.now(1));
        Twins.asked("now: no seat is empty", Halls::full, 0, x -> x.now(2));
        Twins.asked("now: 6 times 99", Halls::full, 594, x -> x.now(3));
        Twins.asked("now: the last second", Halls.emptyAt(9999), 9999, x -> x.now(0));
        ChairDance x = new ChairDance();
        for (int s = 0; s < 6; s++) {
            x.seat(s, 99);
        }
        Check.due("now: all six are empty", x.now(2), 6);
        for (int i = 0; i < 7; i++) {
            x.comes(0, 0, 0);
        }
        Halls.goTo(x, 9999);
        Check.due("now: the most coins there can be", x.now(3), 9999 * 6 * 99);
    }

    // ---- promises 15 to 19

    private static void onBeyondN() {
        Twins.beyondOutside("holder: n", Halls::small, 0, 200, (x, v) -> x.holder(1, v));
        Twins.beyondOutside("where: n", Halls::small, 0, 200, (x, v) -> x.where(3, v));
        Twins.beyondOutside("coins: n", Halls::small, 0, 200, (x, v) -> x.coins(3, v));
        Twins.beyondOutside("rich: n", Halls::small, 0, 200, (x, v) -> x.rich(v));
    }

    private static void onStateAbove9999() {
        int[][] above = {{9800, 200}, {9998, 2}, {9999, 1}, {9999, 200}};
        for (int[] a : above) {
            Consumer<ChairDance> late = Halls.lateAt(a[0]);
            String at = ": " + a[1] + " at " + a[0];
            Twins.refused("holder" + at, late, Check.STATE, x -> x.holder(0, a[1]));
            Twins.refused("where" + at, late, Check.STATE, x -> x.where(0, a[1]));
            Twins.refused("coins" + at, late, Check.STATE, x -> x.coins(0, a[1]));
            Twins.refused("rich" + at, late, Check.STATE, x -> x.rich(a[1]));
        }
        Consumer<ChairDance> last = Halls.lateAt(9999);
        Twins.refused("holder: BEYOND seat ahead of STATE", last, Check.BEYOND, x -> x.holder(1, 200));
        Twins.refused("holder: BEYOND n ahead of STATE", last, Check.BEYOND, x -> x.holder(0, 201));
        Twins.refused("where: BEYOND one ahead of STATE", last, Check.BEYOND, x -> x.where(2, 200));
        Twins.refused("where: BEYOND n ahead of STATE", last, Check.BEYOND, x -> x.where(0, 201));
        Twins.refused("coins: BEYOND one ahead of STATE", last, Check.BEYOND, x -> x.coins(2, 200));
        Twins.refused("coins: BEYOND n ahead of STATE", last, Check.BEYOND, x -> x.coins(0, 201));
        Twins.refused("rich: BEYOND n ahead of STATE", last, Check.BEYOND, x -> x.rich(201));
    }

    /** ON n seconds all is what it is when n seconds have gone, up to the last that may go. */
    private static void onIsAsSecondsGo() {
        onIsAsSecondsGo(Halls::small, 0);
        onIsAsSecondsGo(Halls::small, 1);
        onIsAsSecondsGo(Halls::small, 199);
        onIsAsSecondsGo(Halls::small, 200);
        onIsAsSecondsGo(Halls::full, 200);
        onIsAsSecondsGo(Halls.lateAt(9799), 200);
        onIsAsSecondsGo(Halls.lateAt(9800), 199);
        onIsAsSecondsGo(Halls.lateAt(9998), 1);
        onIsAsSecondsGo(Halls.lateAt(9999), 0);
    }

    private static void onIsAsSecondsGo(Consumer<ChairDance> hall, int n) {
        ChairDance then = Twins.made(hall);
        if (n > 0) {
            then.seconds(n);
        }
        int last = then.count(0) - 1;
        int lastSeat = then.count(1) - 1;
        int rich = 0;
        for (int one = 1; one <= last; one++) {
            rich = then.of(one, 4) > then.of(rich, 4) ? one : rich;
        }
        String on = " on " + n + " from " + (then.now(0) - n);
        Twins.asked("holder: first" + on, hall, then.seatOf(0, 2), x -> x.holder(0, n));
        Twins.asked("holder: last" + on, hall, then.seatOf(lastSeat, 2), x -> x.holder(lastSeat, n));
        Twins.asked("where: first" + on, hall, then.of(0, 1), x -> x.where(0, n));
        Twins.asked("where: last" + on, hall, then.of(last, 1), x -> x.where(last, n));
        Twins.asked("coins: first" + on, hall, then.of(0, 4), x -> x.coins(0, n));
        Twins.asked("coins: last" + on, hall, then.of(last, 4), x -> x.coins(last, n));
        Twins.asked("rich" + on, hall, rich, x -> x.rich(n));
    }

    private static void holderBeyond() {
        Twins.beyondOutside("holder: seat", Halls::small, 0, 1, (x, v) -> x.holder(v, 0));
        Twins.beyondOutside("holder: seat of a full hall", Halls::full, 0, 5, (x, v) -> x.holder(v, 0));
        Twins.asked("holder: nobody", x -> x.seat(0, 1), -1, x -> x.holder(0, 200));
    }

    private static void whereBeyond() {
        Twins.beyondOutside("where: one", Halls::small, 0, 3, (x, v) -> x.where(v, 0));
        Twins.beyondOutside("where: one of a full hall", Halls::full, 0, 9, (x, v) -> x.where(v, 0));
        Twins.asked("where: without seats", x -> x.comes(0, 99, 0), 99, x -> x.where(0, 200));
    }

    private static void coinsBeyond() {
        Twins.beyondOutside("coins: one", Halls::small, 0, 3, (x, v) -> x.coins(v, 0));
        Twins.beyondOutside("coins: one of a full hall", Halls::full, 0, 9, (x, v) -> x.coins(v, 0));
        Twins.asked("coins: without seats", x -> x.comes(0, 99, 0), 0, x -> x.coins(0, 200));
    }

    // ---- promise 18

    private static void getsBeyond() {
        Twins.beyondOutside("gets: one", Halls::small, 0, 3, (x, v) -> x.gets(v, 0));
        Twins.beyondOutside("gets: one of a full hall", Halls::full, 0, 9, (x, v) -> x.gets(v, 0));
        Twins.beyondOutside("gets: seat", Halls::small, 0, 1, (x, v) -> x.gets(0, v));
        Twins.beyondOutside("gets: seat of a full hall", Halls::full, 0, 5, (x, v) -> x.gets(0, v));
    }

    /** A hall in which 3 holds seat 1 first in 201 seconds. */
    private static void slow(ChairDance x) {
        Halls.feed(x, "seat 80 worth 1;seat 88 worth 1;seat 74 worth 1");
        x.hall();
        Halls.feed(x, "stooled 8 toes 30;fat 17 toes 30 wants 1;cook 5 wants 2");
        x.hall();
        Halls.feed(x, "courtier 4 toes 30 wants 1;feigner 81 wants 0");
        x.hall();
    }

    private static void slower(ChairDance x) {
        slow(x);
        x.seconds(1);
    }

    private static void getsFrom0To200() {
        Twins.asked("gets: 0, he holds it", Halls::small, 0, x -> x.gets(3, 1));
        Twins.asked("gets: in 9, when 0 has sat 10", Halls::small, 9, x -> x.gets(2, 0));
        Twins.asked("gets: in 200", BoundsOfSecondsTest::slower, 200, x -> x.gets(3, 1));
        Twins.asked("gets: held by another on 199", BoundsOfSecondsTest::slower, 1, x -> x.holder(1, 199) == 3 ? 0 : 1);
        Twins.asked("gets: held by him on 200", BoundsOfSecondsTest::slower, 3, x -> x.holder(1, 200));
    }

    private static void getsStateAbove9799() {
        Twins.refused("gets: at 9800", Halls.lateAt(9800), Check.STATE, x -> x.gets(0, 0));
        Twins.refused("gets: at 9999", Halls.lateAt(9999), Check.STATE, x -> x.gets(0, 0));
        Twins.refused("gets: STATE ahead of NONE", Halls.lateAt(9800), Check.STATE, x -> x.gets(1, 0));
        Twins.refused("gets: BEYOND one ahead of STATE", Halls.lateAt(9800), Check.BEYOND, x -> x.gets(2, 0));
        Twins.refused("gets: BEYOND seat ahead of STATE", Halls.lateAt(9800), Check.BEYOND, x -> x.gets(0, 1));
        ChairDance at = Twins.made(Halls.lateAt(9799));
        int due = 0;
        while (due < 200 && at.holder(0, due) != 0) {
            due++;
        }
        Twins.asked("gets: at 9799", Halls.lateAt(9799), due, x -> x.gets(0, 0));
        Twins.refused("gets: NONE at 9799", Halls.lateAt(9799), Check.NONE, x -> x.gets(1, 0));
    }

    private static void getsNone() {
        Twins.refused("gets: a page", Halls::small, Check.NONE, x -> x.gets(1, 0));
        Twins.refused("gets: in 201", BoundsOfSecondsTest::slow, Check.NONE, x -> x.gets(3, 1));
    }

    // ---- promise 19

    private static void richBeyond() {
        Twins.asked("rich: one alone, 0", x -> x.comes(2, 0, 0), 0, x -> x.rich(0));
        Twins.asked("rich: one alone, 200", x -> x.comes(2, 0, 0), 0, x -> x.rich(200));
    }

    private static void richNone() {
        Twins.refused("rich: nobody, 0", Halls::empty, Check.NONE, x -> x.rich(0));
        Twins.refused("rich: nobody, 200", Halls::empty, Check.NONE, x -> x.rich(200));
        Twins.refused("rich: nobody, but a seat", x -> x.seat(0, 1), Check.NONE, x -> x.rich(1));
        Twins.refused("rich: nobody at 9999", Halls.emptyAt(9999), Check.NONE, x -> x.rich(0));
        Twins.refused("rich: BEYOND ahead of NONE", Halls::empty, Check.BEYOND, x -> x.rich(201));
        Twins.refused("rich: BEYOND ahead of NONE", Halls::empty, Check.BEYOND, x -> x.rich(-1));
        Twins.refused("rich: STATE ahead of NONE", Halls.emptyAt(9999), Check.STATE, x -> x.rich(1));
    }

    private static void richOfSeveral() {
        Consumer<ChairDance> two = x -> {
            x.comes(2, 0, 0);
            x.seat(0, 9);
            x.seat(99, 9);
            x.comes(0, 99, 0);
            x.comes(0, 0, 0);
        };
        Twins.asked("rich: all have none", two, 0, x -> x.rich(0));
        Twins.asked("rich: two have as many", two, 1, x -> x.rich(5));
        ChairDance x = new ChairDance();
        x.seat(0, 0);
        x.comes(2, 0, 0);
        x.comes(0, 0, 0);
        Check.due("rich: a seat worth nothing", x.rich(200), 0);
        x.worth(0, 1);
        Check.due("rich: by one coin", x.rich(1), 1);
    }
}
