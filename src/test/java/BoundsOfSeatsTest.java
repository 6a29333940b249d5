/** The boundary cases that promises 1 to 11 name, a test for each sentence. */
public final class BoundsOfSeatsTest {
    public static void main(String[] args) {
        newObjectIsEmpty();
        newObjectHasNoSeat();
        newObjectHasNobody();
        newObjectHasNoSheetAndNoImage();
        seatBeyondSpot();
        seatBeyondWorth();
        seatStateOneIsOnIt();
        seatFull();
        seatOfBeyond();
        seatOfNobody();
        worthBeyond();
        comesBeyondKind();
        comesBeyondSpot();
        comesBeyondToes();
        comesFull();
        comesOnAnothersSpot();
        ofBeyond();
        ofNone();
        setBeyondWhat();
        setBeyondSpot();
        setBeyondToes();
        setBeyondWill();
        setStateSpotOfOneWhoSits();
        turnBeyond();
        turnPageWhoSitsKeepsHisSeat();
        asBeyond();
        asKind();
        farBeyond();
        farAnyNumber();
        onBeyond();
        onEmptyAndFull();
        goesAtDivisibleSeconds();
        nextOfSeveral();
        Check.end();
    }

    // ---- promise 1

    private static void newObjectIsEmpty() {
        ChairDance x = new ChairDance();
        for (int which = -1; which < 7; which++) {
            Check.due("new: status " + which, x.status(which), 0);
        }
        for (int what = 0; what < 4; what++) {
            Check.due("new: count " + what, x.count(what), 0);
            Check.due("new: now " + what, x.now(what), 0);
        }
        for (int spot = 0; spot < 100; spot++) {
            Check.due("new: on " + spot, x.on(spot), 0);
        }
        Twins.asked("new: the tape is empty", Halls::empty, 0, y -> y.wipe());
        Twins.asked("new: an empty text ends too early", Halls::empty, -1, y -> y.hall());
        Twins.refused("new: rich", Halls::empty, Check.NONE, y -> y.rich(0));
        Check.due("new: a second goes", x.seconds(1), 0);
        Check.due("new: second 1", x.now(0), 1);
    }

    private static void newObjectHasNoSeat() {
        Twins.refused("new: seatOf", Halls::empty, Check.BEYOND, x -> x.seatOf(0, 0));
        Twins.refused("new: worth", Halls::empty, Check.BEYOND, x -> x.worth(0, 0));
        Twins.refused("new: cough", Halls::empty, Check.BEYOND, x -> x.cough(0));
        Twins.refused("new: holder", Halls::empty, Check.BEYOND, x -> x.holder(0, 0));
        Twins.CallWith[] ofSeats = {
            (x, s) -> x.gets(0, s), (x, s) -> x.spots(0, s), (x, s) -> x.nearest(0, s),
            (x, s) -> x.twice(0, s), (x, s) -> x.guard(0, s),
        };
        for (int i = 0; i < ofSeats.length; i++) {
            Twins.CallWith call = ofSeats[i];
            Twins.refused("one, but no seat " + i, x -> x.comes(2, 0, 0), Check.BEYOND, x -> call.on(x, 0));
        }
    }

    private static void newObjectHasNobody() {
        Twins.Call[] ofOnes = {
            x -> x.of(0, 0), x -> x.set(0, 1, 0), x -> x.turn(0, 0), x -> x.as(0, 0), x -> x.far(0, 0),
            x -> x.where(0, 0), x -> x.coins(0, 0), x -> x.gets(0, 0), x -> x.spots(0, 0),
            x -> x.nearest(0, 0), x -> x.place(0, 0), x -> x.best(0), x -> x.coughFor(0),
            x -> x.twice(0, 0), x -> x.will(0, 1), x -> x.kind(0, 1), x -> x.guard(0, 0),
        };
        for (int i = 0; i < ofOnes.length; i++) {
            Twins.refused("new: nobody " + i, Halls::empty, Check.BEYOND, ofOnes[i]);
            Twins.refused("a seat, but nobody " + i, x -> x.seat(0, 1), Check.BEYOND, ofOnes[i]);
        }
    }

    private static void newObjectHasNoSheetAndNoImage() {
        for (int sheet = 0; sheet < 4; sheet++) {
            int s = sheet;
            Twins.refused("new: write", Halls::empty, Check.MISSING, x -> x.write(s, 0, 0));
            Twins.refused("new: copy", Halls::empty, Check.MISSING, x -> x.copy(s, 0, s, 0, 0));
            Twins.refused("new: lays", Halls::empty, Check.MISSING, x -> x.lays(s));
            Twins.refused("new: roll", Halls::empty, Check.MISSING, x -> x.roll(s, 0));
            Twins.refused("new: read", Halls::empty, Check.MISSING, x -> x.read(s, 0));
        }
        Twins.refused("new: undo", Halls::empty, Check.NONE, x -> x.undo());
        Twins.asked("new: tear", Halls::empty, 0, x -> x.tear());
    }

    // ---- promise 2

    private static void seatBeyondSpot() {
        Twins.beyondOutside("seat: spot", Halls::small, 0, 99, (x, v) -> x.seat(v, 5));
        ChairDance x = new ChairDance();
        Check.due("seat: spot 0", x.seat(0, 5), 0);
        Check.due("seat: spot 99", x.seat(99, 5), 1);
        Check.due("seat: its spot 0", x.seatOf(0, 0), 0);
        Check.due("seat: its spot 99", x.seatOf(1, 0), 99);
    }

    private static void seatBeyondWorth() {
        Twins.beyondOutside("seat: worth", Halls::small, 0, 99, (x, v) -> x.seat(5, v));
        ChairDance x = new ChairDance();
        Check.due("seat: worth 0", x.seat(5, 0), 0);
        Check.due("seat: worth 99", x.seat(6, 99), 1);
        Check.due("seat: its worth 0", x.seatOf(0, 1), 0);
        Check.due("seat: its worth 99", x.seatOf(1, 1), 99);
        Check.due("seat: held by nobody at first", x.seatOf(1, 2), -1);
    }

    private static void seatStateOneIsOnIt() {
        Twins.refused("seat: on the first", Halls::small, Check.STATE, x -> x.seat(44, 10));
        Twins.refused("seat: on the last", Halls::small, Check.STATE, x -> x.seat(9, 0));
        Twins.refused("seat: BEYOND ahead of STATE", Halls::small, Check.BEYOND, x -> x.seat(44, 100));
        Check.due("seat: on one who stands", Twins.made(Halls::small).seat(40, 1), 2);
    }

    private static void seatFull() {
        ChairDance x = new ChairDance();
        for (int s = 0; s < 6; s++) {
            Check.due("seat: " + (s + 1) + " of 6", x.seat(50 + s, s), s);
        }
        Check.due("seat: a 7th", x.seat(0, 0), Check.FULL);
        Check.due("seat: still six", x.count(1), 6);
        Twins.refused("seat: FULL", Halls::full, Check.FULL, y -> y.seat(99, 0));
        Twins.refused("seat: STATE ahead of FULL", Halls::full, Check.STATE, y -> y.seat(55, 0));
        Twins.refused("seat: BEYOND spot ahead of FULL", Halls::full, Check.BEYOND, y -> y.seat(100, 0));
        Twins.refused("seat: BEYOND worth ahead of FULL", Halls::full, Check.BEYOND, y -> y.seat(99, 100));
    }

    // ---- promise 3

    private static void seatOfBeyond() {
        Twins.beyondOutside("seatOf: seat", Halls::small, 0, 1, (x, v) -> x.seatOf(v, 0));
        Twins.beyondOutside("seatOf: seat of a full hall", Halls::full, 0, 5, (x, v) -> x.seatOf(v, 0));
        Twins.beyondOutside("seatOf: what", Halls::small, 0, 3, (x, v) -> x.seatOf(0, v));
        Twins.asked("seatOf: seat 0, what 0", Halls::small, 44, x -> x.seatOf(0, 0));
        Twins.asked("seatOf: the last, what 1", Halls::small, 20, x -> x.seatOf(1, 1));
        Twins.asked("seatOf: the last, what 2", Halls::small, 3, x -> x.seatOf(1, 2));
        Twins.asked("seatOf: the last, what 3", Halls::small, 2, x -> x.seatOf(1, 3));
        Twins.asked("seatOf: seat 5", Halls::full, 55, x -> x.seatOf(5, 0));
        Twins.asked("seatOf: who holds seat 5", Halls::full, 6, x -> x.seatOf(5, 2));
    }

    private static void seatOfNobody() {
        ChairDance x = new ChairDance();
        x.seat(0, 0);
        Check.due("seatOf: held by nobody", x.seatOf(0, 2), -1);
        Check.due("seatOf: nobody is in the hall", x.seatOf(0, 3), -1);
        x.comes(2, 0, 99);
        Check.due("seatOf: but a page", x.seatOf(0, 3), -1);
        x.comes(0, 99, 0);
        Check.due("seatOf: one is next", x.seatOf(0, 3), 1);
        x.seconds(1);
        Check.due("seatOf: he holds it", x.seatOf(0, 2), 1);
        Check.due("seatOf: all the others are pages", x.seatOf(0, 3), -1);
        x.turn(0, 0);
        x.turn(1, 2);
        Check.due("seatOf: a page no more", x.seatOf(0, 3), 0);
    }

    // ---- promise 4

    private static void worthBeyond() {
        Twins.beyondOutside("worth: seat", Halls::small, 0, 1, (x, v) -> x.worth(v, 5));
        Twins.beyondOutside("worth: seat of a full hall", Halls::full, 0, 5, (x, v) -> x.worth(v, 5));
        Twins.beyondOutside("worth: v", Halls::small, 0, 99, (x, v) -> x.worth(1, v));
        ChairDance x = Twins.made(Halls::small);
        Check.due("worth: 0", x.worth(1, 0), 20);
        Check.due("worth: 99", x.worth(1, 99), 0);
        Check.due("worth: the same", x.worth(1, 99), 99);
        Check.due("worth: the last is", x.seatOf(1, 1), 99);
        Check.due("worth: the first stays", x.seatOf(0, 1), 10);
        x.seconds(1);
        Check.due("worth: coins by the new one", x.of(3, 4), 40 + 99);
    }

    // ---- promise 5

    private static void comesBeyondKind() {
        Twins.beyondOutside("comes: kind", Halls::small, 0, 5, (x, v) -> x.comes(v, 0, 0));
        ChairDance x = Twins.made(Halls::small);
        Check.due("comes: kind 0", x.comes(0, 0, 0), 4);
        Check.due("comes: kind 5", x.comes(5, 0, 0), 5);
        Check.due("comes: his kind 0", x.of(4, 0), 0);
        Check.due("comes: his kind 5", x.of(5, 0), 5);
    }

    private static void comesBeyondSpot() {
        Twins.beyondOutside("comes: spot", Halls::small, 0, 99, (x, v) -> x.comes(0, v, 0));
        ChairDance x = Twins.made(Halls::small);
        Check.due("comes: spot 0", x.comes(0, 0, 0), 4);
        Check.due("comes: spot 99", x.comes(0, 99, 0), 5);
        Check.due("comes: on 0", x.on(0), 16);
        Check.due("comes: on 99", x.on(99), 32);
    }

    private static void comesBeyondToes() {
        Twins.beyondOutside("comes: toes", Halls::small, 0, 99, (x, v) -> x.comes(0, 0, v));
        ChairDance x = Twins.made(Halls::small);
        Check.due("comes: toes 0", x.comes(0, 0, 0), 4);
        Check.due("comes: toes 99", x.comes(0, 0, 99), 5);
        Check.due("comes: his toes 0", x.of(4, 2), 0);
        Check.due("comes: his toes 99", x.of(5, 2), 99);
    }

    private static void comesFull() {
        ChairDance x = new ChairDance();
        for (int i = 0; i < 10; i++) {
            Check.due("comes: " + (i + 1) + " of 10", x.comes(i % 6, i, i), i);
        }
        Check.due("comes: an 11th", x.comes(0, 0, 0), Check.FULL);
        Check.due("comes: still ten", x.count(0), 10);
        Twins.refused("comes: FULL", Halls::full, Check.FULL, y -> y.comes(2, 0, 0));
        Twins.refused("comes: BEYOND kind ahead of FULL", Halls::full, Check.BEYOND, y -> y.comes(6, 0, 0));
        Twins.refused("comes: BEYOND spot ahead of FULL", Halls::full, Check.BEYOND, y -> y.comes(0, 100, 0));
        Twins.refused("comes: BEYOND toes ahead of FULL", Halls::full, Check.BEYOND, y -> y.comes(0, 0, 100));
    }

    private static void comesOnAnothersSpot() {
        ChairDance x = Twins.made(Halls::small);
        Check.due("comes: where a page stands", x.comes(0, 40, 0), 4);
        Check.due("comes: where one sits", x.comes(0, 44, 0), 5);
        Check.due("comes: two on 40", x.on(40), 2 | 16);
        Check.due("comes: one stands on 44", x.on(44), 32);
    }

    // ---- promise 6

    private static void ofBeyond() {
        Twins.beyondOutside("of: one", Halls::small, 0, 3, (x, v) -> x.of(v, 0));
        Twins.beyondOutside("of: one of a full hall", Halls::full, 0, 9, (x, v) -> x.of(v, 0));
        Twins.beyondOutside("of: what", Halls::small, 0, 9, (x, v) -> x.of(0, v));
        Twins.asked("of: one 0, what 0", Halls::small, 0, x -> x.of(0, 0));
        Twins.asked("of: the last, what 0", Halls::small, 5, x -> x.of(3, 0));
        Twins.asked("of: the last, what 9", Halls::small, 1, x -> x.of(3, 9));
        Twins.asked("of: one 9", Halls::full, 99, x -> x.of(9, 1));
    }

    private static void ofNone() {
        Twins.asked("of: no will", Halls::small, -1, x -> x.of(0, 3));
        Twins.asked("of: no seat", Halls::small, -1, x -> x.of(1, 5));
        Twins.asked("of: sat of one who stands", Halls::small, 0, x -> x.of(2, 6));
        ChairDance x = Twins.made(Halls::small);
        Check.due("of: he has sat", x.of(0, 6), 2);
        x.cough(0);
        Check.due("of: sat of one who has risen", x.of(0, 6), 0);
        Check.due("of: seat of one who has risen", x.of(0, 5), -1);
        Check.due("of: sat of one who has sat down now", x.of(2, 6), 0);
    }

    // ---- promise 7

    private static void setBeyondWhat() {
        Twins.beyondOutside("set: one", Halls::small, 0, 3, (x, v) -> x.set(v, 2, 0));
        Twins.beyondOutside("set: one of a full hall", Halls::full, 0, 9, (x, v) -> x.set(v, 2, 0));
        Twins.beyondOutside("set: what", Halls::small, 1, 3, (x, v) -> x.set(2, v, 0));
        Twins.beyondOutside("set: what of one who sits", Halls::small, 1, 3, (x, v) -> x.set(0, v, 0));
        Twins.acted("set: the last of a full hall", Halls::full, 99, x -> x.set(9, 2, 0), x -> {
            Check.due("set: what it was", x.set(9, 2, 50), 99);
            Check.due("set: what it was then", x.set(9, 2, 0), 50);
        });
    }

    private static void setBeyondSpot() {
        Twins.beyondOutside("set: spot", Halls::small, 0, 99, (x, v) -> x.set(2, 1, v));
        ChairDance x = Twins.made(Halls::small);
        Check.due("set: spot 0", x.set(2, 1, 0), 61);
        Check.due("set: spot 99", x.set(2, 1, 99), 0);
        Check.due("set: he is there", x.on(99), 4);
    }

    private static void setBeyondToes() {
        Twins.beyondOutside("set: toes", Halls::small, 0, 99, (x, v) -> x.set(2, 2, v));
        Twins.beyondOutside("set: toes of one who sits", Halls::small, 0, 99, (x, v) -> x.set(0, 2, v));
        ChairDance x = Twins.made(Halls::small);
        Check.due("set: toes 0", x.set(2, 2, 0), 8);
        Check.due("set: toes 99", x.set(2, 2, 99), 0);
        Check.due("set: he leans by them", x.of(2, 7), 99);
        Check.due("set: toes of one who sits", x.set(0, 2, 99), 3);
    }

    private static void setBeyondWill() {
        Twins.beyondOutside("set: will", Halls::small, -1, 1, (x, v) -> x.set(2, 3, v));
        Twins.beyondOutside("set: will in a full hall", Halls::full, -1, 5, (x, v) -> x.set(9, 3, v));
        Twins.beyondOutside("set: will without seats", x -> x.comes(0, 0, 0), -1, -1, (x, v) -> x.set(0, 3, v));
        ChairDance x = Twins.made(Halls::small);
        Check.due("set: will the last", x.set(2, 3, 1), 0);
        Check.due("set: will none", x.set(2, 3, -1), 1);
        Check.due("set: will none again", x.set(2, 3, -1), -1);
        Check.due("set: will of one who sits", x.set(0, 3, 1), -1);
        Check.due("set: will of a page", x.set(1, 3, 0), -1);
        Check.due("set: will 5", Twins.made(Halls::full).set(0, 3, 5), -1);
        ChairDance y = new ChairDance();
        y.comes(0, 0, 0);
        Check.due("set: none without seats", y.set(0, 3, -1), -1);
    }

    private static void setStateSpotOfOneWhoSits() {
        Twins.refused("set: spot of one who sits", Halls::small, Check.STATE, x -> x.set(0, 1, 45));
        Twins.refused("set: his own spot", Halls::small, Check.STATE, x -> x.set(3, 1, 9));
        Twins.refused("set: BEYOND ahead of STATE", Halls::small, Check.BEYOND, x -> x.set(0, 1, 100));
        Twins.refused("set: BEYOND ahead of STATE", Halls::small, Check.BEYOND, x -> x.set(0, 1, -1));
        ChairDance x = Twins.made(Halls::small);
        x.cough(0);
        Check.due("set: spot of one who has risen", x.set(0, 1, 45), 44);
        Check.due("set: spot of one who has sat down", x.set(2, 1, 45), Check.STATE);
    }

    // ---- promise 8

    private static void turnBeyond() {
        Twins.beyondOutside("turn: one", Halls::small, 0, 3, (x, v) -> x.turn(v, 1));
        Twins.beyondOutside("turn: one of a full hall", Halls::full, 0, 9, (x, v) -> x.turn(v, 1));
        Twins.beyondOutside("turn: kind", Halls::small, 0, 5, (x, v) -> x.turn(0, v));
        ChairDance x = Twins.made(Halls::small);
        Check.due("turn: to 5", x.turn(0, 5), 0);
        Check.due("turn: to 0", x.turn(0, 0), 5);
        Check.due("turn: the last", x.turn(3, 0), 5);
        Twins.asked("turn: to what he is", Halls::small, 3, y -> y.turn(2, 3));
    }

    private static void turnPageWhoSitsKeepsHisSeat() {
        ChairDance x = Twins.made(Halls::small);
        Check.due("turn: to a page", x.turn(0, 2), 0);
        Check.due("turn: he holds it", x.seatOf(0, 2), 0);
        Check.due("turn: he sits", x.of(0, 5), 0);
        Check.due("turn: he has sat", x.of(0, 6), 2);
        x.seconds(8);
        Check.due("turn: up to 10 seconds", x.seatOf(0, 2), 0);
        Check.due("turn: he has sat 10", x.of(0, 6), 10);
        Check.due("turn: and his coins", x.of(0, 4), 100);
        x.seconds(1);
        Check.due("turn: then he rises", x.of(0, 5), -1);
        Check.due("turn: and 2 sits", x.seatOf(0, 2), 2);
    }

    // ---- promise 9

    private static void asBeyond() {
        Twins.beyondOutside("as: one", Halls::small, 0, 3, (x, v) -> x.as(v, 0));
        Twins.beyondOutside("as: one of a full hall", Halls::full, 0, 9, (x, v) -> x.as(v, 0));
        Twins.beyondOutside("as: kind, BEYOND ahead of KIND", Halls::small, 0, 5, (x, v) -> x.as(0, v));
        Twins.asked("as: the first", Halls::small, 20, x -> x.as(0, 0));
        Twins.asked("as: the last, kind 5", Halls::small, 40, x -> x.as(3, 5));
        Twins.asked("as: the last, kind 0", Halls::small, 40, x -> x.as(3, 0));
    }

    private static void asKind() {
        String[] under = {"0", "01", "02", "03", "034", "015"};
        for (int own = 0; own < 6; own++) {
            for (int other = 0; other < 6; other++) {
                int of = own;
                int kind = other;
                String what = "as: " + own + " as " + other;
                if (under[own].indexOf('0' + other) >= 0) {
                    Twins.asked(what, x -> x.comes(of, 0, 0), 0, x -> x.as(0, kind));
                } else {
                    Twins.refused(what, x -> x.comes(of, 0, 0), Check.KIND, x -> x.as(0, kind));
                }
            }
        }
    }

    // ---- promise 10

    private static void farBeyond() {
        Twins.beyondOutside("far: one", Halls::small, 0, 3, (x, v) -> x.far(v, 0));
        Twins.beyondOutside("far: one of a full hall", Halls::full, 0, 9, (x, v) -> x.far(v, 0));
        Twins.beyondOutside("far: spot", Halls::small, 0, 99, (x, v) -> x.far(0, v));
        Twins.asked("far: spot 0", Halls::small, 100 * (16 + 16) - 3, x -> x.far(0, 0));
        Twins.asked("far: spot 99", Halls::small, 100 * (25 + 25) - 3, x -> x.far(0, 99));
        Twins.asked("far: the last one", Halls::small, 100 * (81 + 0) - 51, x -> x.far(3, 99));
    }

    private static void farAnyNumber() {
        ChairDance x = new ChairDance();
        x.comes(2, 0, 99);
        x.comes(4, 9, 99);
        x.comes(0, 90, 0);
        x.comes(0, 90, 1);
        Check.due("far: the greatest there is", x.far(0, 99), 16200);
        Check.due("far: the least there is", x.far(1, 9), -198);
        Check.due("far: 0", x.far(2, 90), 0);
        Check.due("far: -1", x.far(3, 90), -1);
        Check.due("far: no wrap from 9 to 10", x.far(1, 10), 100 * (1 + 81) - 198);
        Check.due("far: no finding", x.status(-1), 0);
    }

    // ---- promise 11

    private static void onBeyond() {
        Twins.beyondOutside("on: spot", Halls::small, 0, 99, (x, v) -> x.on(v));
        ChairDance x = new ChairDance();
        x.comes(0, 0, 0);
        x.comes(0, 99, 0);
        Check.due("on: spot 0", x.on(0), 1);
        Check.due("on: spot 99", x.on(99), 2);
    }

    private static void onEmptyAndFull() {
        ChairDance x = new ChairDance();
        for (int i = 0; i < 10; i++) {
            x.comes(i % 6, 50, 0);
        }
        Check.due("on: all ten", x.on(50), 1023);
        Check.due("on: nobody", x.on(49), 0);
        x.seat(50, 0);
        x.seconds(1);
        Check.due("on: not he who sits there, the cook", x.on(50), 1023 - 32);
        Twins.asked("on: one who sits", Halls::small, 0, y -> y.on(44));
    }

    // ---- the terms that promises 3 and 6 tell

    private static void goesAtDivisibleSeconds() {
        int[][] due = {
            {0, 1, 1, 2, 0, 0, 1}, {1, 1, 0, 2, 1, 1, 0}, {2, 1, 1, 2, 1, 1, 1}, {3, 1, 0, 2, 0, 0, 0},
            {9998, 1, 1, 2, 1, 1, 1}, {9999, 1, 0, 2, 0, 0, 0},
        };
        for (int[] d : due) {
            ChairDance x = new ChairDance();
            for (int kind = 0; kind < 6; kind++) {
                x.comes(kind, 0, 0);
            }
            Halls.goTo(x, d[0]);
            for (int kind = 0; kind < 6; kind++) {
                Check.due("goes at second " + d[0] + ": " + kind, x.of(kind, 9), d[kind + 1]);
            }
        }
    }

    private static void nextOfSeveral() {
        ChairDance x = new ChairDance();
        x.seat(55, 0);
        x.comes(0, 56, 0);
        x.comes(0, 54, 0);
        Check.due("next: as far, as many toes: the least", x.seatOf(0, 3), 0);
        x.set(1, 2, 1);
        Check.due("next: nearer by one toe", x.seatOf(0, 3), 1);
        x.turn(0, 1);
        x.set(1, 2, 30);
        Check.due("next: as far, more toes, not the least", x.seatOf(0, 3), 1);
        x.set(1, 2, 29);
        Check.due("next: less far goes ahead of toes", x.seatOf(0, 3), 0);
    }
}
