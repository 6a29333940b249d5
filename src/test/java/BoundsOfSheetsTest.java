import java.util.function.Consumer;

/** The boundary cases that promises 32 to 37 name, a test for each sentence. */
public final class BoundsOfSheetsTest {
    private static final int LOW = Integer.MIN_VALUE;
    private static final int HIGH = Integer.MAX_VALUE;

    public static void main(String[] args) {
        beyondNoSuchSheet();
        missing();
        sheetBeyondBits();
        sheetSize();
        sheetBeyondN();
        sheetMadeAnew();
        writeBeyondNumber();
        writeLowestBits();
        copyFromToBeyond();
        copyAsTheyAllWere();
        copyKind();
        copyOrder();
        laysEmptyAndFull();
        laysLeftOut();
        rollBeyondN();
        rollStateAbove9999();
        rollAsFarAsItHasNumbers();
        readBeyondSeat();
        readStateAbove9959();
        readFirstThatIsnt();
        Check.end();
    }

    private static void beyondNoSuchSheet() {
        Twins.beyondOutside("sheet: s", Halls::small, 0, 3, (x, v) -> x.sheet(v, 8, 1));
        Twins.beyondOutside("write: s", Halls::small, 0, 3, (x, v) -> x.write(v, 0, 1));
        Twins.beyondOutside("copy: s", Halls::small, 0, 3, (x, v) -> x.copy(v, 0, 0, 0, 1));
        Twins.beyondOutside("copy: t", Halls::small, 0, 3, (x, v) -> x.copy(0, 0, v, 0, 1));
        Twins.beyondOutside("lays: s", Halls::small, 0, 3, (x, v) -> x.lays(v));
        Twins.beyondOutside("roll: s", Halls::small, 0, 3, (x, v) -> x.roll(v, 0));
        Twins.beyondOutside("read: s", Halls::small, 0, 3, (x, v) -> x.read(v, 0));
        for (int sheet = 0; sheet < 4; sheet++) {
            ChairDance x = new ChairDance();
            Check.due("sheet " + sheet, x.sheet(sheet, 8, 1), 1);
            Check.due("write " + sheet, x.write(sheet, 0, 5), 0);
            Check.due("copy " + sheet, x.copy(sheet, 0, sheet, 0, 1), 1);
            Check.due("lays " + sheet, x.lays(sheet), 0);
            Check.due("roll " + sheet, x.roll(sheet, 0), 0);
            x.seat(0, 1);
            Check.due("read " + sheet, x.read(sheet, 0), 1);
            Check.due("no finding of " + sheet, x.status(-1), 0);
        }
    }

    /** In the small hall sheet 3 is missing; what else is wrong with the call comes later. */
    private static void missing() {
        Twins.refused("write: missing", Halls::small, Check.MISSING, x -> x.write(3, 0, 1));
        Twins.refused("write: MISSING ahead of BEYOND", Halls::small, Check.MISSING, x -> x.write(3, -1, 1));
        Twins.refused("copy: s is missing", Halls::small, Check.MISSING, x -> x.copy(3, 0, 0, 0, 0));
        Twins.refused("copy: t is missing", Halls::small, Check.MISSING, x -> x.copy(0, 0, 3, 0, 0));
        Twins.refused("copy: both are", Halls::small, Check.MISSING, x -> x.copy(3, 0, 3, 0, 0));
        Twins.refused("copy: BEYOND ahead of MISSING", Halls::small, Check.BEYOND, x -> x.copy(3, 0, 4, 0, 0));
        Twins.refused("copy: BEYOND ahead of MISSING", Halls::small, Check.BEYOND, x -> x.copy(-1, 0, 3, 0, 0));
        Twins.refused("lays: missing", Halls::small, Check.MISSING, x -> x.lays(3));
        Twins.refused("roll: missing", Halls::small, Check.MISSING, x -> x.roll(3, 0));
        Twins.refused("roll: MISSING ahead of BEYOND", Halls::small, Check.MISSING, x -> x.roll(3, 201));
        Twins.refused("roll: MISSING ahead of STATE", Halls.lateAt(9999), Check.MISSING, x -> x.roll(3, 1));
        Twins.refused("read: missing", Halls::small, Check.MISSING, x -> x.read(3, 0));
        Twins.refused("read: MISSING ahead of BEYOND", Halls::small, Check.MISSING, x -> x.read(3, 2));
        Twins.refused("read: MISSING ahead of STATE", Halls.lateAt(9999), Check.MISSING, x -> x.read(3, 0));
    }

    // ---- promise 32

    private static void sheetBeyondBits() {
        int[] none = {-64, -8, -1, 1, 7, 9, 15, 17, 24, 32, 63, 65, 128, LOW, HIGH};
        for (int bits : none) {
            Twins.refused("sheet: bits " + bits, Halls::small, Check.BEYOND, x -> x.sheet(0, bits, 1));
            Twins.refused("sheet: BEYOND bits ahead of SIZE", Halls::small, Check.BEYOND, x -> x.sheet(0, bits, -1));
        }
        Twins.refused("sheet: BEYOND s ahead of SIZE", Halls::small, Check.BEYOND, x -> x.sheet(4, 8, -1));
        int[] some = {8, 16, 64};
        for (int bits : some) {
            Check.due("sheet: bits " + bits, Twins.made(Halls::small).sheet(0, bits, 1), 1);
        }
    }

    private static void sheetSize() {
        int[] all = {0, 8, 16, 64};
        for (int bits : all) {
            Twins.refused("sheet: n -1 of " + bits, Halls::small, Check.SIZE, x -> x.sheet(0, bits, -1));
            Twins.refused("sheet: the least n of " + bits, Halls::small, Check.SIZE, x -> x.sheet(0, bits, LOW));
            Check.due("sheet: n 0 of " + bits, Twins.made(Halls::small).sheet(0, bits, 0), 0);
        }
    }

    private static void sheetBeyondN() {
        int[] all = {0, 8, 16, 64};
        for (int bits : all) {
            Twins.refused("sheet: n 41 of " + bits, Halls::small, Check.BEYOND, x -> x.sheet(0, bits, 41));
            Twins.refused("sheet: the most n of " + bits, Halls::small, Check.BEYOND, x -> x.sheet(0, bits, HIGH));
            Check.due("sheet: n 40 of " + bits, Twins.made(Halls::small).sheet(0, bits, 40), bits == 0 ? 0 : 40);
        }
    }

    private static void sheetMadeAnew() {
        ChairDance x = new ChairDance();
        x.sheet(0, 64, 40);
        for (int i = 0; i < 40; i++) {
            x.write(0, i, -1);
        }
        Check.due("sheet: smaller", x.sheet(0, 8, 1), 1);
        Check.due("sheet: its number is 0", x.write(0, 0, 9), 0);
        Check.due("sheet: it has no more", x.write(0, 1, 9), Check.BEYOND);
        Check.due("sheet: larger", x.sheet(0, 64, 40), 40);
        for (int i = 0; i < 40; i++) {
            Check.due("sheet: all are 0, " + i, x.write(0, i, -1), 0);
        }
        Check.due("sheet: missing", x.sheet(0, 0, 40), 0);
        Check.due("sheet: no numbers", x.write(0, 0, 0), Check.MISSING);
        Check.due("sheet: missing again", x.sheet(0, 0, 0), 0);
        Check.due("sheet: there again", x.sheet(0, 16, 2), 2);
        Check.due("sheet: 0", x.write(0, 0, 0), 0);
        Twins.acted("sheet: the others stay", Halls::small, 3, y -> y.sheet(0, 8, 3), y -> {
            y.write(0, 0, 0);
            y.write(0, 1, 0);
            y.write(0, 2, 0);
        });
    }

    // ---- promise 33

    private static void writeBeyondNumber() {
        Twins.beyondOutside("write: i of 3", Halls::small, 0, 2, (x, v) -> x.write(0, v, 5));
        Twins.beyondOutside("write: i of 2", Halls::small, 0, 1, (x, v) -> x.write(1, v, 5));
        Twins.beyondOutside("write: i of none", Halls::small, 0, -1, (x, v) -> x.write(2, v, 5));
        Twins.beyondOutside("write: i of 40", Halls::full, 0, 39, (x, v) -> x.write(3, v, 5));
        Check.due("write: the first", Twins.made(Halls::small).write(0, 0, 5), 1);
        Check.due("write: the last", Twins.made(Halls::small).write(0, 2, 5), 7);
        Check.due("write: the last of 40", Twins.made(Halls::full).write(3, 39, 5), 0);
    }

    private static void writeLowestBits() {
        long[][] of8 = {{127, 127}, {128, -128}, {255, -1}, {256, 0}, {-128, -128}, {-129, 127}, {Long.MAX_VALUE, -1}};
        long[][] of16 = {
            {32767, 32767}, {32768, -32768}, {65535, -1}, {65536, 0}, {-32768, -32768}, {-32769, 32767},
            {Long.MIN_VALUE, 0},
        };
        long[][] of64 = {
            {Long.MAX_VALUE, Long.MAX_VALUE}, {Long.MIN_VALUE, Long.MIN_VALUE}, {4294967296L, 4294967296L}, {-1, -1},
            {-1000000001L, -1000000001L},
        };
        lowestBits(8, of8);
        lowestBits(16, of16);
        lowestBits(64, of64);
    }

    private static void lowestBits(int bits, long[][] written) {
        ChairDance x = new ChairDance();
        x.sheet(0, bits, 1);
        for (long[] w : written) {
            x.write(0, 0, w[0]);
            Check.due("write: " + w[0] + " in " + bits + " bits", x.write(0, 0, 0), w[1]);
        }
        Check.due("write: no finding", x.status(-1), 0);
    }

    // ---- promise 34

    /** Sheets 0 (5 numbers, 1 to 5) and 1 (3 numbers) of 8 bits, 2 of 16 bits, 3 missing. */
    private static void rows(ChairDance x) {
        x.sheet(0, 8, 5);
        x.sheet(1, 8, 3);
        x.sheet(2, 16, 5);
        for (int i = 0; i < 5; i++) {
            x.write(0, i, i + 1);
        }
    }

    private static void copyFromToBeyond() {
        Consumer<ChairDance> rows = BoundsOfSheetsTest::rows;
        Twins.beyondOutside("copy: from, 1 number", rows, 0, 4, (x, v) -> x.copy(0, v, 1, 0, 1));
        Twins.beyondOutside("copy: to, 1 number", rows, 0, 2, (x, v) -> x.copy(0, 0, 1, v, 1));
        Twins.beyondOutside("copy: from, no number", rows, 0, 5, (x, v) -> x.copy(0, v, 1, 0, 0));
        Twins.beyondOutside("copy: to, no number", rows, 0, 3, (x, v) -> x.copy(0, 0, 1, v, 0));
        Twins.beyondOutside("copy: n, the second has 3", rows, 0, 3, (x, v) -> x.copy(0, 0, 1, 0, v));
        Twins.beyondOutside("copy: n, the first has 3", rows, 0, 3, (x, v) -> x.copy(1, 0, 0, 0, v));
        Twins.beyondOutside("copy: n from the third on", rows, 0, 3, (x, v) -> x.copy(0, 2, 1, 0, v));
        int[][] wraps = {{HIGH, 0, 1}, {0, HIGH, 1}, {HIGH, HIGH, HIGH}, {1, 0, HIGH}, {LOW, LOW, LOW}, {LOW, 0, HIGH}};
        for (int[] w : wraps) {
            Twins.refused("copy: that wraps around", rows, Check.BEYOND, x -> x.copy(0, w[0], 1, w[1], w[2]));
        }
        Twins.asked("copy: none", rows, 0, x -> x.copy(0, 0, 1, 0, 0));
        Twins.asked("copy: none, behind the last", rows, 0, x -> x.copy(0, 5, 1, 3, 0));
        Twins.acted("copy: the last to the last", rows, 1, x -> x.copy(0, 4, 1, 2, 1), x -> x.write(1, 2, 5));
        Twins.acted("copy: all it has", rows, 3, x -> x.copy(0, 2, 1, 0, 3), x -> {
            x.write(1, 0, 3);
            x.write(1, 1, 4);
            x.write(1, 2, 5);
        });
        Twins.asked("copy: between sheets of no numbers", x -> {
            x.sheet(0, 64, 0);
            x.sheet(1, 64, 0);
        }, 0, x -> x.copy(0, 0, 1, 0, 0));
        Twins.acted("copy: 40", x -> {
            Halls.full(x);
            x.write(0, 39, 7);
        }, 40, x -> x.copy(0, 0, 3, 0, 40), x -> x.write(3, 39, 7));
    }

    private static void copyAsTheyAllWere() {
        Consumer<ChairDance> rows = BoundsOfSheetsTest::rows;
        Twins.acted("copy: to itself, onwards", rows, 4, x -> x.copy(0, 0, 0, 1, 4), x -> {
            for (int i = 1; i < 5; i++) {
                x.write(0, i, i);
            }
        });
        Twins.acted("copy: to itself, back", rows, 4, x -> x.copy(0, 1, 0, 0, 4), x -> {
            for (int i = 0; i < 4; i++) {
                x.write(0, i, i + 2);
            }
        });
        Twins.asked("copy: to where they are", rows, 5, x -> x.copy(0, 0, 0, 0, 5));
    }

    private static void copyKind() {
        Twins.refused("copy: 8 to 16 bits", BoundsOfSheetsTest::rows, Check.KIND, x -> x.copy(0, 0, 2, 0, 1));
        Twins.refused("copy: 16 to 8 bits", BoundsOfSheetsTest::rows, Check.KIND, x -> x.copy(2, 0, 0, 0, 1));
        Twins.refused("copy: none", BoundsOfSheetsTest::rows, Check.KIND, x -> x.copy(2, 0, 0, 0, 0));
        Twins.refused("copy: to 64 bits", Halls::small, Check.KIND, x -> x.copy(1, 0, 2, 0, 0));
    }

    private static void copyOrder() {
        Twins.refused("copy: KIND ahead of BEYOND", BoundsOfSheetsTest::rows, Check.KIND, x -> x.copy(0, 9, 2, -1, 99));
        Twins.refused("copy: MISSING ahead of BEYOND", BoundsOfSheetsTest::rows, Check.MISSING, x -> x.copy(0, 9, 3, -1, 99));
    }

    // ---- promise 35

    private static void laysEmptyAndFull() {
        Twins.asked("lays: a sheet without numbers", Halls::small, 0, x -> x.lays(2));
        Twins.asked("lays: nobody is there", x -> x.sheet(0, 8, 40), 0, x -> x.lays(0));
        Twins.acted("lays: ten of forty", Halls::full, 10, x -> x.lays(0), x -> {
            for (int one = 0; one < 10; one++) {
                x.set(one, 3, 0);
            }
        });
        Twins.acted("lays: two numbers for four", Halls::small, 2, x -> x.lays(1), x -> {
            x.set(0, 3, 0);
            x.set(1, 3, 0);
        });
    }

    private static void laysLeftOut() {
        // 1, -1 and 7 for 0, 1 and 2: the last is no seat.
        Twins.acted("lays: 7 is no seat", Halls::small, 2, x -> x.lays(0), x -> {
            x.set(0, 3, 1);
            x.set(1, 3, -1);
        });
        long[][] laid = {
            {-2, 0}, {-1, 1}, {0, 1}, {1, 1}, {2, 0}, {4294967296L, 0}, {4294967295L, 0}, {Long.MAX_VALUE, 0},
            {Long.MIN_VALUE, 0}, {-4294967296L, 0},
        };
        for (long[] l : laid) {
            Twins.acted("lays: " + l[0], x -> {
                Halls.small(x);
                x.sheet(3, 64, 1);
                x.write(3, 0, l[0]);
                x.set(0, 3, 1);
            }, l[1], x -> x.lays(3), x -> {
                if (l[1] == 1) {
                    x.set(0, 3, (int) l[0]);
                }
            });
        }
        Twins.acted("lays: -1 alone without seats", x -> {
            x.comes(0, 0, 0);
            x.comes(0, 0, 0);
            x.sheet(0, 8, 2);
            x.write(0, 1, -1);
        }, 1, x -> x.lays(0), x -> { });
    }

    // ---- promise 36

    private static void rollBeyondN() {
        Twins.beyondOutside("roll: n", Halls::small, 0, 200, (x, v) -> x.roll(0, v));
        Twins.beyondOutside("roll: BEYOND ahead of STATE", Halls.lateAt(9999), 0, 200, (x, v) -> x.roll(0, v));
        int[] in = {0, 1, 200};
        for (int n : in) {
            ChairDance then = Twins.made(Halls::small);
            int first = then.holder(0, n);
            int last = then.holder(1, n);
            Twins.acted("roll: n " + n, Halls::small, 2, x -> x.roll(0, n), x -> {
                x.write(0, 0, first);
                x.write(0, 1, last);
            });
        }
    }

    private static void rollStateAbove9999() {
        Twins.refused("roll: 200 at 9800", Halls.lateAt(9800), Check.STATE, x -> x.roll(0, 200));
        Twins.refused("roll: 1 at 9999", Halls.lateAt(9999), Check.STATE, x -> x.roll(0, 1));
        Twins.refused("roll: no numbers, 1 at 9999", Halls.lateAt(9999), Check.STATE, x -> x.roll(1, 1));
        int[][] last = {{9799, 200}, {9800, 199}, {9998, 1}, {9999, 0}};
        for (int[] l : last) {
            int due = Twins.made(Halls.lateAt(l[0])).holder(0, l[1]);
            Twins.acted("roll: " + l[1] + " at " + l[0], Halls.lateAt(l[0]), 1, x -> x.roll(0, l[1]),
                    x -> x.write(0, 0, due));
        }
    }

    private static void rollAsFarAsItHasNumbers() {
        Twins.asked("roll: no numbers", Halls::small, 0, x -> x.roll(2, 5));
        Twins.asked("roll: no seats", x -> x.sheet(0, 8, 40), 0, x -> x.roll(0, 200));
        Twins.acted("roll: one number for two seats", x -> {
            Halls.small(x);
            x.sheet(3, 64, 1);
        }, 1, x -> x.roll(3, 0), x -> x.write(3, 0, 0));
        Twins.acted("roll: forty numbers for six seats", Halls::full, 6, x -> x.roll(3, 0), x -> {
            int[] holders = {0, 1, 3, 4, 5, 6};
            for (int s = 0; s < 6; s++) {
                x.write(3, s, holders[s]);
            }
        });
        int[] all = {8, 16, 64};
        for (int bits : all) {
            Twins.acted("roll: nobody in " + bits + " bits", x -> {
                x.seat(0, 1);
                x.sheet(0, bits, 2);
            }, 1, x -> x.roll(0, 200), x -> x.write(0, 0, -1));
        }
    }

    // ---- promise 37

    private static void readBeyondSeat() {
        Twins.beyondOutside("read: seat", Halls::small, 0, 1, (x, v) -> x.read(0, v));
        Twins.beyondOutside("read: seat of a full hall", Halls::full, 0, 5, (x, v) -> x.read(0, v));
        Twins.beyondOutside("read: seat, no numbers", Halls::small, 0, 1, (x, v) -> x.read(2, v));
        Twins.beyondOutside("read: BEYOND ahead of STATE", Halls.lateAt(9960), 0, 0, (x, v) -> x.read(0, v));
        Twins.asked("read: the last seat", Halls::full, 1, x -> x.read(0, 5));
    }

    private static void readStateAbove9959() {
        Twins.refused("read: at 9960", Halls.lateAt(9960), Check.STATE, x -> x.read(0, 0));
        Twins.refused("read: no numbers at 9960", Halls.lateAt(9960), Check.STATE, x -> x.read(1, 0));
        Twins.refused("read: at 9999", Halls.lateAt(9999), Check.STATE, x -> x.read(0, 0));
        Twins.asked("read: no numbers at 9959", Halls.lateAt(9959), 0, x -> x.read(1, 0));
        Twins.asked("read: 40 numbers at 9959", x -> {
            holders(x, 9959);
        }, 0, x -> x.read(3, 0));
    }

    /** Sheet 3 has forty numbers, which are who holds seat 0 from that second on. */
    private static void holders(ChairDance x, int second) {
        Halls.lateAt(second).accept(x);
        x.sheet(3, 8, 40);
        ChairDance asked = Twins.made(Halls.lateAt(second));
        for (int i = 0; i < 40; i++) {
            x.write(3, i, asked.holder(0, i));
        }
    }

    private static void readFirstThatIsnt() {
        Twins.asked("read: no numbers", Halls::small, 0, x -> x.read(2, 0));
        Twins.asked("read: all forty are", x -> holders(x, 7), 0, x -> x.read(3, 0));
        int[] wrong = {0, 1, 20, 39};
        for (int i : wrong) {
            Twins.asked("read: number " + i + " isn't", x -> {
                holders(x, 7);
                x.write(3, i, 99);
            }, 1 + i, x -> x.read(3, 0));
        }
        Twins.asked("read: of two the first", x -> {
            holders(x, 7);
            x.write(3, 39, 99);
            x.write(3, 5, 99);
        }, 6, x -> x.read(3, 0));
        Twins.asked("read: nobody is -1", x -> {
            x.seat(0, 1);
            x.sheet(0, 8, 1);
            x.write(0, 0, 255);
        }, 0, x -> x.read(0, 0));
        Twins.asked("read: all 64 bits count", x -> {
            x.seat(0, 1);
            x.sheet(0, 64, 1);
            x.write(0, 0, 4294967295L);
        }, 1, x -> x.read(0, 0));
    }
}
