/** Promises 32 to 37. */
public final class SheetsTest {
    private static final int LOW = Integer.MIN_VALUE;
    private static final int HIGH = Integer.MAX_VALUE;

    public static void main(String[] args) {
        sheet();
        write();
        copy();
        lays();
        roll();
        read();
        late();
        Check.end();
    }

    private static void sheet() {
        ChairDance x = new ChairDance();
        int[] noSheets = {-1, 4, LOW, HIGH};
        for (int s : noSheets) {
            Check.due("sheet " + s, x.sheet(s, 8, 1), Check.BEYOND);
            Check.due("BEYOND ahead of SIZE", x.sheet(s, 8, -1), Check.BEYOND);
        }
        int[] noBits = {-8, 1, 7, 9, 32, 128, LOW, HIGH};
        for (int bits : noBits) {
            Check.due("bits " + bits, x.sheet(0, bits, 1), Check.BEYOND);
            Check.due("BEYOND ahead of SIZE", x.sheet(0, bits, -1), Check.BEYOND);
        }
        int[] allBits = {0, 8, 16, 64};
        for (int bits : allBits) {
            Check.due("40 of " + bits, x.sheet(3, bits, 40), bits == 0 ? 0 : 40);
            Check.due("41 of " + bits, x.sheet(3, bits, 41), Check.BEYOND);
            Check.due("-1 of " + bits, x.sheet(3, bits, -1), Check.SIZE);
            Check.due("least of " + bits, x.sheet(3, bits, LOW), Check.SIZE);
            Check.due("most of " + bits, x.sheet(3, bits, HIGH), Check.BEYOND);
            Check.due("none of " + bits, x.sheet(2, bits, 0), 0);
        }
        Check.due("it stands as it was", x.write(3, 39, 5), 0);
        x.write(3, 0, 6);
        Check.due("anew", x.sheet(3, 64, 40), 40);
        Check.due("all 0", x.write(3, 39, 5), 0);
        Check.due("the first, too", x.write(3, 0, 5), 0);
        Check.due("gone", x.sheet(3, 0, 7), 0);
        Check.due("missing", x.write(3, 0, 5), Check.MISSING);
    }

    private static void write() {
        ChairDance x = new ChairDance();
        x.sheet(0, 8, 2);
        x.sheet(1, 16, 2);
        x.sheet(2, 64, 2);
        long[] written = {255, 128, 127, 65535, 32768, 32767, Long.MAX_VALUE, Long.MIN_VALUE, -1000000001L};
        for (long v : written) {
            x.write(0, 1, v);
            x.write(1, 1, v);
            x.write(2, 1, v);
            Check.due("8 bits of " + v, x.write(0, 1, 0), (byte) v);
            Check.due("16 bits of " + v, x.write(1, 1, 0), (short) v);
            Check.due("64 bits of " + v, x.write(2, 1, 0), v);
        }
        Check.due("the other one", x.write(2, 0, 0), 0);
        Check.due("what looks like a finding is none", x.status(-1), 0);
        Check.due("number 2", x.write(0, 2, 0), Check.BEYOND);
        Check.due("number -1", x.write(0, -1, 0), Check.BEYOND);
        Check.due("missing", x.write(3, -1, 0), Check.MISSING);
        Check.due("no sheet", x.write(4, 0, 0), Check.BEYOND);
        Check.due("no sheet", x.write(-1, 0, 0), Check.BEYOND);
    }

    private static void copy() {
        ChairDance x = new ChairDance();
        x.sheet(0, 8, 5);
        x.sheet(1, 8, 3);
        x.sheet(2, 16, 5);
        for (int i = 0; i < 5; i++) {
            x.write(0, i, i + 1);
        }
        Check.due("part", x.copy(0, 2, 1, 0, 3), 3);
        Check.due("there", x.write(1, 2, 9), 5);
        Check.due("itself, onwards", x.copy(0, 0, 0, 1, 4), 4);
        int[] due = {1, 1, 2, 3, 4};
        for (int i = 0; i < 5; i++) {
            Check.due("as they were " + i, x.write(0, i, i + 1), due[i]);
        }
        Check.due("itself, back", x.copy(0, 1, 0, 0, 4), 4);
        int[] back = {2, 3, 4, 5, 5};
        for (int i = 0; i < 5; i++) {
            Check.due("back " + i, x.write(0, i, i + 1), back[i]);
        }
        Check.due("none", x.copy(0, 5, 1, 3, 0), 0);
        int[][] wrong = {
            {6, 0, 0}, {0, 4, 0}, {3, 0, 3}, {0, 1, 3}, {-1, 0, 1}, {0, -1, 1}, {0, 0, -1},
            {HIGH, 0, HIGH}, {0, HIGH, HIGH}, {LOW, 0, 1}, {1, 1, HIGH}, {1, 1, LOW},
        };
        for (int[] w : wrong) {
            Check.due("from " + w[0] + " to " + w[1] + ", " + w[2], x.copy(0, w[0], 1, w[1], w[2]), Check.BEYOND);
        }
        Check.due("other bits", x.copy(0, 9, 2, 0, 1), Check.KIND);
        Check.due("from a missing one", x.copy(3, 9, 2, 0, 1), Check.MISSING);
        Check.due("to a missing one", x.copy(0, 9, 3, 0, 1), Check.MISSING);
        Check.due("to none", x.copy(3, 0, 4, 0, 1), Check.BEYOND);
        Check.due("from none", x.copy(-1, 0, 3, 0, 1), Check.BEYOND);
    }

    private static void lays() {
        ChairDance x = new ChairDance();
        x.seat(0, 1);
        x.seat(1, 1);
        for (int i = 0; i < 5; i++) {
            x.comes(0, 50, 0);
            x.set(i, 3, i % 2);
        }
        x.sheet(0, 64, 7);
        long[] laid = {1, -1, 2, -2, 1L << 32, 0, 1};
        for (int i = 0; i < 7; i++) {
            x.write(0, i, laid[i]);
        }
        Check.due("two came", x.lays(0), 2);
        int[] wills = {1, -1, 0, 1, 0};
        for (int i = 0; i < 5; i++) {
            Check.due("will of " + i, x.of(i, 3), wills[i]);
        }
        x.sheet(1, 8, 1);
        x.write(1, 0, 255);
        Check.due("a short one", x.lays(1), 1);
        Check.due("none now", x.of(0, 3), -1);
        Check.due("missing", x.lays(2), Check.MISSING);
        Check.due("no sheet", x.lays(4), Check.BEYOND);
        Check.due("no sheet", x.lays(-1), Check.BEYOND);
    }

    private static ChairDance threeSeats() {
        ChairDance x = new ChairDance();
        x.seat(0, 1);
        x.seat(50, 1);
        x.seat(99, 1);
        x.comes(4, 0, 0);
        x.comes(0, 50, 0);
        return x;
    }

    private static void roll() {
        ChairDance x = threeSeats();
        x.sheet(0, 8, 5);
        x.write(0, 4, 77);
        x.write(0, 3, 78);
        Check.due("three", x.roll(0, 1), 3);
        int[] due = {0, 1, -1, 78, 77};
        for (int i = 0; i < 5; i++) {
            Check.due("holder of " + i, x.write(0, i, 55), due[i]);
        }
        x.sheet(1, 16, 2);
        Check.due("as far as it goes", x.roll(1, 5), 2);
        Check.due("he has risen for the third", x.write(1, 0, 0), -1);
        Check.due("the other sits", x.write(1, 1, 0), 1);
        Check.due("nothing went on", x.now(0), 0);
        Check.due("0", x.roll(0, 0), 3);
        Check.due("held by nobody yet", x.write(0, 1, 0), -1);
        Check.due("200", x.roll(0, 200), 3);
        Check.due("201", x.roll(0, 201), Check.BEYOND);
        Check.due("-1", x.roll(0, -1), Check.BEYOND);
        Check.due("MISSING ahead of n", x.roll(2, 201), Check.MISSING);
        Check.due("no sheet", x.roll(4, 0), Check.BEYOND);
        Check.due("no sheet", x.roll(-1, 0), Check.BEYOND);
    }

    private static void read() {
        ChairDance x = threeSeats();
        x.sheet(0, 8, 7);
        int[] holders = {-1, 0, 0, 0, 0, -1, 1};
        for (int i = 0; i < 7; i++) {
            x.write(0, i, holders[i]);
        }
        Check.due("the last is wrong", x.read(0, 0), 7);
        x.write(0, 6, -1);
        Check.due("all are", x.read(0, 0), 0);
        x.write(0, 3, 1);
        Check.due("one is wrong", x.read(0, 0), 4);
        x.write(0, 0, 0);
        Check.due("the first is wrong", x.read(0, 0), 1);
        x.sheet(1, 64, 1);
        x.write(1, 0, (1L << 32) - 1);
        Check.due("all bits count", x.read(1, 0), 1);
        Check.due("nothing went on", x.now(0), 0);
        Check.due("no seat", x.read(0, 3), Check.BEYOND);
        Check.due("no seat", x.read(0, -1), Check.BEYOND);
        Check.due("MISSING ahead of seat", x.read(2, 3), Check.MISSING);
        Check.due("no sheet", x.read(4, 0), Check.BEYOND);
        Check.due("no sheet", x.read(-1, 0), Check.BEYOND);
    }

    private static void late() {
        ChairDance x = new ChairDance();
        x.seat(0, 1);
        x.sheet(0, 8, 0);
        x.sheet(1, 16, 40);
        for (int i = 0; i < 40; i++) {
            x.write(1, i, -1);
        }
        for (int i = 0; i < 49; i++) {
            x.seconds(200);
        }
        x.seconds(159);
        Check.due("second", x.now(0), 9959);
        Check.due("read to the last", x.read(1, 0), 0);
        Check.due("roll to the last", x.roll(1, 40), 1);
        Check.due("roll", x.roll(1, 41), Check.STATE);
        x.seconds(1);
        Check.due("read", x.read(1, 0), Check.STATE);
        Check.due("read of no numbers", x.read(0, 0), Check.STATE);
        Check.due("read BEYOND ahead", x.read(1, 1), Check.BEYOND);
        Check.due("roll BEYOND ahead", x.roll(1, 201), Check.BEYOND);
        Check.due("roll of no numbers", x.roll(0, 40), Check.STATE);
        Check.due("roll", x.roll(0, 39), 0);
    }
}
