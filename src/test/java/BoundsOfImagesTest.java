/** The boundary cases that promises 38 to 42 name, a test for each sentence. */
public final class BoundsOfImagesTest {
    public static void main(String[] args) {
        imageOfAnEmptyHall();
        imageOfAFullHall();
        imageKeepsTheLatest();
        imageWithoutTapeAndSheets();
        undoNone();
        undoStays();
        undoMakesRoom();
        tearSomethingAndNothing();
        countBeyond();
        countEmptyAndFull();
        statusBeyond();
        statusOfEachFinding();
        statusAndUndo();
        Check.end();
    }

    // ---- promise 38

    private static void imageOfAnEmptyHall() {
        ChairDance x = new ChairDance();
        Check.due("image: of nothing", x.image(), 1);
        x.seat(0, 1);
        x.comes(0, 0, 0);
        x.seconds(5);
        Check.due("image: nobody again", x.undo(), 0);
        for (int what = 0; what < 4; what++) {
            Check.due("image: now " + what, x.now(what), 0);
            Check.due("image: count " + what, x.count(what), 0);
        }
        Check.due("image: no seat", x.seatOf(0, 0), Check.BEYOND);
    }

    private static void imageOfAFullHall() {
        Twins.acted("image: of a full hall", y -> {
            Halls.full(y);
            y.image();
        }, 10, y -> {
            y.seconds(200);
            for (int i = 0; i < 10; i++) {
                y.turn(i, 2);
                y.set(i, 3, i % 6);
                y.set(i, 2, i);
            }
            for (int s = 0; s < 6; s++) {
                y.worth(s, s);
                y.cough(s);
            }
            return y.undo();
        }, y -> { });
    }

    private static void imageKeepsTheLatest() {
        ChairDance x = new ChairDance();
        for (int i = 0; i < 3; i++) {
            Check.due("image: " + i, x.image(), 1);
            x.comes(0, 0, 0);
        }
        Check.due("image: the latest", x.undo(), 2);
        Check.due("image: at the last second", Twins.made(Halls.lateAt(9999)).image(), 1);
    }

    private static void imageWithoutTapeAndSheets() {
        ChairDance x = Twins.made(Halls::small);
        x.image();
        x.wipe();
        x.write(0, 0, 99);
        x.sheet(1, 0, 0);
        x.undo();
        Check.due("image: not the tape", x.count(2), 0);
        Check.due("image: not the sheets", x.write(0, 0, 0), 99);
        Check.due("image: one is missing still", x.write(1, 0, 0), Check.MISSING);
    }

    // ---- promise 39

    private static void undoNone() {
        Twins.refused("undo: nothing is kept", Halls::empty, Check.NONE, x -> x.undo());
        Twins.refused("undo: nothing is kept now", x -> {
            Halls.small(x);
            x.tear();
        }, Check.NONE, x -> x.undo());
    }

    private static void undoStays() {
        Twins.acted("undo: as often as one likes", Halls::small, 4, x -> {
            x.undo();
            x.seconds(20);
            x.undo();
            x.comes(0, 0, 0);
            return x.undo();
        }, x -> Check.due("undo: once", x.undo(), 4));
    }

    /** The places of a court and of seats that were undone are new for those who come. */
    private static void undoMakesRoom() {
        ChairDance x = new ChairDance();
        x.image();
        for (int i = 0; i < 10; i++) {
            x.comes(5, i, 99);
        }
        for (int s = 0; s < 6; s++) {
            x.seat(s, 99);
        }
        for (int i = 0; i < 10; i++) {
            x.set(i, 3, 5);
        }
        x.seconds(19);
        x.undo();
        for (int i = 0; i < 10; i++) {
            Check.due("undo: room for " + i, x.comes(0, 50, 0), i);
            int[] due = {0, 50, 0, -1, 0, -1, 0, 0, 10, 1};
            for (int what = 0; what < 10; what++) {
                Check.due("undo: new " + i + ", " + what, x.of(i, what), due[what]);
            }
        }
        Check.due("undo: no 11th", x.comes(0, 50, 0), Check.FULL);
        for (int s = 0; s < 6; s++) {
            Check.due("undo: room for seat " + s, x.seat(s, 1), s);
            Check.due("undo: held by nobody", x.seatOf(s, 2), -1);
        }
        Check.due("undo: no 7th", x.seat(60, 1), Check.FULL);
    }

    // ---- promise 40

    private static void tearSomethingAndNothing() {
        Twins.asked("tear: nothing", Halls::empty, 0, x -> x.tear());
        Twins.acted("tear: something", Halls::small, 1, x -> x.tear(), x -> {
            x.image();
            x.tear();
            Check.due("tear: nothing more", x.tear(), 0);
        });
        ChairDance x = Twins.made(Halls::small);
        x.tear();
        Check.due("tear: the hall stays", x.now(0), 2);
        Check.due("tear: then an image", x.image(), 1);
        Check.due("tear: something again", x.tear(), 1);
    }

    // ---- promise 41

    private static void countBeyond() {
        Twins.beyondOutside("count: what", Halls::small, 0, 3, (x, v) -> x.count(v));
        Twins.asked("count: 0", Halls::small, 4, x -> x.count(0));
        Twins.asked("count: 1", Halls::small, 2, x -> x.count(1));
        Twins.asked("count: 2", Halls::small, 6, x -> x.count(2));
        Twins.asked("count: 3", Halls::small, 1 | 8, x -> x.count(3));
    }

    private static void countEmptyAndFull() {
        int[] full = {10, 6, 120, 1 | 2 | 8 | 16 | 32 | 64};
        for (int what = 0; what < 4; what++) {
            int w = what;
            Twins.asked("count: empty, " + what, Halls::empty, 0, x -> x.count(w));
            Twins.asked("count: full, " + what, Halls::full, full[what], x -> x.count(w));
        }
        ChairDance x = new ChairDance();
        for (int i = 0; i < 10; i++) {
            x.comes(0, i < 9 ? 0 : 99, 0);
        }
        x.seat(99, 1);
        x.seconds(1);
        Check.due("count: the last one sits", x.count(3), 512);
    }

    // ---- promise 42

    private static void statusBeyond() {
        Twins.beyondOutside("status: which", Halls::small, -1, 6, (x, v) -> x.status(v));
        for (int which = -1; which < 7; which++) {
            int w = which;
            Twins.asked("status: " + which, Halls::small, 0, x -> x.status(w));
        }
        ChairDance x = new ChairDance();
        Check.due("status: 7", x.status(7), Check.BEYOND);
        Check.due("status: counted from then on", x.status(0), 1);
        Check.due("status: and in all", x.status(-1), 1);
        Check.due("status: -2", x.status(-2), Check.BEYOND);
        Check.due("status: counted, too", x.status(0), 2);
    }

    /** One finding of each kind, each counted at its own place alone. */
    private static void statusOfEachFinding() {
        Twins.Call[] calls = {
            x -> x.on(100), x -> x.comes(0, 0, 0), x -> x.as(0, 1), x -> x.gets(2, 0), x -> x.set(0, 1, 5),
            x -> {
                x.sheet(3, 0, 0);
                return x.lays(3);
            }, x -> x.sheet(0, 8, -1),
        };
        ChairDance all = Twins.made(Halls::full);
        for (int which = 0; which < calls.length; which++) {
            ChairDance x = Twins.made(Halls::full);
            Check.due("status: the finding " + which, calls[which].on(x), -1000000001L - which);
            for (int other = 0; other < 7; other++) {
                Check.due("status: " + other + " after " + which, x.status(other), other == which ? 1 : 0);
            }
            Check.due("status: all after " + which, x.status(-1), 1);
            calls[which].on(all);
            Check.due("status: all together", all.status(-1), which + 1);
        }
    }

    private static void statusAndUndo() {
        ChairDance x = new ChairDance();
        x.undo();
        x.image();
        x.on(100);
        x.undo();
        Check.due("status: NONE stays", x.status(3), 1);
        Check.due("status: undo takes none back", x.status(0), 1);
        x.tear();
        Check.due("status: nor does tear", x.status(-1), 2);
    }
}
