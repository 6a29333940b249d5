/** Promises 38 to 42. */
public final class ImagesTest {
    public static void main(String[] args) {
        undoBringsAllBack();
        latest();
        notKept();
        tear();
        count();
        status();
        findingsChangeNothing();
        Check.end();
    }

    private static void undoBringsAllBack() {
        ChairDance x = new ChairDance();
        x.seat(5, 10);
        x.comes(0, 5, 1);
        x.comes(1, 99, 2);
        x.set(1, 3, 0);
        x.seconds(3);
        long[] before = told(x);
        Check.due("image", x.image(), 1);
        x.seat(6, 20);
        x.comes(2, 50, 3);
        x.worth(0, 77);
        x.set(0, 2, 50);
        x.set(0, 3, 1);
        x.turn(0, 5);
        x.turn(1, 3);
        x.seconds(30);
        x.cough(0);
        Check.due("undo", x.undo(), 2);
        long[] after = told(x);
        for (int i = 0; i < before.length; i++) {
            Check.due("told " + i, after[i], before[i]);
        }
        Check.due("seat 1 is gone", x.seatOf(1, 0), Check.BEYOND);
        Check.due("one 2 is gone", x.of(2, 0), Check.BEYOND);
        Check.due("a new one is new", x.comes(0, 1, 1), 2);
        Check.due("without coins", x.of(2, 4), 0);
        Check.due("without a will", x.of(2, 3), -1);
        Check.due("a new seat is new", x.seat(6, 1), 1);
        Check.due("held by nobody", x.seatOf(1, 2), -1);
    }

    private static long[] told(ChairDance x) {
        long[] told = new long[30];
        int n = 0;
        for (int one = 0; one < 2; one++) {
            for (int what = 0; what < 10; what++) {
                told[n++] = x.of(one, what);
            }
        }
        for (int what = 0; what < 4; what++) {
            told[n++] = x.seatOf(0, what);
            told[n++] = x.now(what);
        }
        told[n++] = x.count(0);
        told[n++] = x.count(1);
        return told;
    }

    private static void latest() {
        ChairDance x = new ChairDance();
        x.image();
        x.comes(0, 0, 0);
        x.image();
        x.comes(0, 0, 0);
        Check.due("the latest", x.undo(), 1);
        x.comes(0, 0, 0);
        x.seconds(5);
        Check.due("which stays", x.undo(), 1);
        Check.due("second", x.now(0), 0);
        x.set(0, 1, 77);
        x.undo();
        Check.due("what changes here does not change it", x.of(0, 1), 0);
    }

    private static void notKept() {
        ChairDance x = new ChairDance();
        x.sheet(0, 8, 1);
        x.image();
        x.feed(65, 1);
        x.write(0, 0, 9);
        x.status(99);
        Check.due("undo", x.undo(), 0);
        Check.due("the tape stays", x.count(2), 1);
        Check.due("sheets stay", x.write(0, 0, 0), 9);
        Check.due("status stays", x.status(-1), 1);
    }

    private static void tear() {
        ChairDance x = new ChairDance();
        Check.due("nothing", x.tear(), 0);
        x.image();
        x.image();
        Check.due("something", x.tear(), 1);
        Check.due("nothing then", x.tear(), 0);
        Check.due("nothing to undo", x.undo(), Check.NONE);
        x.image();
        Check.due("kept anew", x.undo(), 0);
    }

    private static void count() {
        ChairDance x = new ChairDance();
        x.seat(0, 1);
        x.seat(99, 1);
        for (int i = 0; i < 10; i++) {
            x.comes(0, i < 9 ? 50 : 99, i);
        }
        x.feed(0, 4);
        x.seconds(1);
        Check.due("court", x.count(0), 10);
        Check.due("seats", x.count(1), 2);
        Check.due("bytes", x.count(2), 4);
        Check.due("who sits", x.count(3), 1 << 8 | 1 << 9);
        Check.due("what 4", x.count(4), Check.BEYOND);
        Check.due("what -1", x.count(-1), Check.BEYOND);
    }

    private static void status() {
        ChairDance x = new ChairDance();
        x.undo();
        x.of(0, 0);
        x.of(0, 0);
        x.seat(0, 0);
        x.cough(0);
        x.seat(0, 0);
        x.cough(0);
        x.comes(0, 0, 0);
        x.as(0, 1);
        x.sheet(0, 0, -1);
        x.write(0, 0, 0);
        for (int i = 0; i < 30; i++) {
            x.feed(0, 4);
        }
        x.feed(0, 1);
        int[] due = {2, 1, 1, 1, 3, 1, 1};
        for (int i = 0; i < 7; i++) {
            Check.due("status " + i, x.status(i), due[i]);
        }
        Check.due("all", x.status(-1), 10);
        Check.due("which 7", x.status(7), Check.BEYOND);
        Check.due("counted", x.status(0), 3);
        Check.due("which -2", x.status(-2), Check.BEYOND);
        Check.due("all then", x.status(-1), 12);
        x.image();
        x.status(8);
        x.undo();
        Check.due("undo takes none back", x.status(-1), 13);
    }

    private static void findingsChangeNothing() {
        ChairDance x = new ChairDance();
        x.seat(5, 10);
        x.comes(0, 5, 1);
        x.comes(2, 99, 2);
        x.seconds(3);
        x.feed(65, 1);
        long[] before = told(x);
        x.seat(5, 1);
        x.worth(0, 100);
        x.set(0, 1, 3);
        x.set(0, 3, 1);
        x.turn(0, 6);
        x.seconds(0);
        x.cough(1);
        x.feed(65, 5);
        x.lays(0);
        x.roll(0, 0);
        x.undo();
        x.gets(1, 0);
        x.nearest(0, 0);
        x.twice(1, 0);
        long[] after = told(x);
        for (int i = 0; i < before.length; i++) {
            Check.due("told " + i, after[i], before[i]);
        }
        Check.due("tape", x.count(2), 1);
        Check.due("findings", x.status(-1), 14);
    }
}
