/** Promises 29 to 31. */
public final class TextTest {
    public static void main(String[] args) {
        feed();
        wipe();
        items();
        blanks();
        coughs();
        faults();
        tooMany();
        nothingChangesAtAFault();
        Check.end();
    }

    private static void feed() {
        ChairDance x = new ChairDance();
        int[] wrong = {0, 5, -1, Integer.MIN_VALUE, Integer.MAX_VALUE};
        for (int n : wrong) {
            Check.due("n " + n, x.feed(1, n), Check.BEYOND);
        }
        for (int i = 1; i <= 29; i++) {
            Check.due("four", x.feed(-1, 4), 4 * i);
        }
        Check.due("three more", x.feed(0, 3), 119);
        Check.due("two are too many", x.feed(0, 2), Check.FULL);
        Check.due("BEYOND ahead of FULL", x.feed(0, 5), Check.BEYOND);
        Check.due("one fits", x.feed(0, 1), 120);
        Check.due("full", x.feed(0, 1), Check.FULL);
        Check.due("as many as there were", x.count(2), 120);
        Check.due("the first byte is none of a token", x.hall(), -1);
        Check.due("empty then", x.count(2), 0);
        // The lowest bytes, the highest of these first: "page" in 4, "  5" in 3.
        Check.due("page", x.feed('p' << 24 | 'a' << 16 | 'g' << 8 | 'e', 4), 4);
        Check.due("blank 5", x.feed('x' << 24 | ' ' << 16 | ' ' << 8 | '5', 3), 7);
        Check.due("one", x.hall(), 1);
        Check.due("on 5", x.of(0, 1), 5);
    }

    private static void wipe() {
        ChairDance x = new ChairDance();
        Check.due("empty", x.wipe(), 0);
        x.feed(0, 3);
        Check.due("three", x.wipe(), 3);
        Check.due("none", x.count(2), 0);
        Check.due("a text behind it", Check.hallOf(x, "page 5"), 1);
    }

    private static void items() {
        ChairDance x = new ChairDance();
        Check.due("items", Check.hallOf(x, "seat 5;seat 99 worth 0;seat 0 worth 99;courtier 1 wants 2"), 4);
        Check.due("more", Check.hallOf(x, "fat 2 toes 7;page 3;stooled 4 toes 99 wants 0;feigner 5;cook 99 toes 0"), 5);
        Check.due("worth without", x.seatOf(0, 1), 5);
        Check.due("worth 0", x.seatOf(1, 1), 0);
        Check.due("worth 99", x.seatOf(2, 1), 99);
        Check.due("spot", x.seatOf(1, 0), 99);
        Check.due("held by nobody", x.now(2), 3);
        int[] spots = {1, 2, 3, 4, 5, 99};
        int[] toes = {0, 7, 0, 99, 0, 0};
        int[] wills = {2, -1, -1, 0, -1, -1};
        for (int i = 0; i < 6; i++) {
            Check.due("kind", x.of(i, 0), i);
            Check.due("spot", x.of(i, 1), spots[i]);
            Check.due("toes", x.of(i, 2), toes[i]);
            Check.due("will", x.of(i, 3), wills[i]);
            Check.due("coins", x.of(i, 4), 0);
            Check.due("stands", x.of(i, 5), -1);
        }
    }

    private static void blanks() {
        ChairDance x = new ChairDance();
        Check.due("none", Check.hallOf(x, "seat5worth7;fat9toes8wants0"), 2);
        Check.due("worth", x.seatOf(0, 1), 7);
        Check.due("will", x.of(0, 3), 0);
        Check.due("many", Check.hallOf(x, "   seat   6   worth   8  ;  page   7   "), 2);
        Check.due("zeros ahead", Check.hallOf(x, "seat 00000000000000000007"), 1);
        Check.due("on 7", x.seatOf(2, 0), 7);
    }

    private static void coughs() {
        ChairDance x = new ChairDance();
        x.seat(0, 1);
        x.comes(0, 0, 0);
        x.seconds(1);
        Check.due("he rises for a new one", Check.hallOf(x, "fat 9;cough 0"), 2);
        Check.due("the new one", x.seatOf(0, 2), 1);
        Check.due("twice", Check.hallOf(x, "cough 0;cough 0"), 2);
        Check.due("again he", x.seatOf(0, 2), 1);
        x.turn(0, 2);
        Check.due("held no longer", Check.hallOf(x, "cough 0;cough 0"), -1 - 14);
        Check.due("he sits still", x.of(1, 5), 0);
        Check.due("once", Check.hallOf(x, "cough 0"), 1);
        Check.due("nobody", x.seatOf(0, 2), -1);
        Check.due("a new seat is not held", Check.hallOf(x, "seat 5;cough 1"), -1 - 13);
    }

    private static void faults() {
        fault("", 0);
        fault("   ", 3);
        fault(";", 0);
        fault("seat", 4);
        fault("seat  ", 6);
        fault("seat x", 5);
        fault("seat ;", 5);
        fault("seat 100", 5);
        fault("seat 5", 5);
        fault("seat 10000", 5);
        fault("seat 4294967302", 5);
        fault("seat 99999999999999999999", 5);
        fault("seat 6 7", 7);
        fault("seat 6 worth", 12);
        fault("seat 6 worth ;", 13);
        fault("seat 6 worth 100", 13);
        fault("seat 6 worth worth", 13);
        fault("seat 6 toes 5", 7);
        fault("seat 6;", 7);
        fault("seat 6; ", 8);
        fault("seat 6;;", 7);
        fault("seat 6;seat 6", 12);
        fault("seatt 6", 0);
        fault("sea 6", 0);
        fault("seatworth 6", 0);
        fault("xeat 6", 0);
        fault("seatz 6", 0);
        fault("zseat 6", 0);
        fault("aseat 6", 0);
        fault("Seat 6", 0);
        fault("seat 6,", 6);
        fault("seat\t6", 4);
        fault("6", 0);
        fault("worth 6", 0);
        fault("  pages 6", 2);
        fault("page", 4);
        fault("page 100", 5);
        fault("page -1", 5);
        fault("page 6 toes", 11);
        fault("page 6 toes 100", 12);
        fault("page 6 toes 5 toes 5", 14);
        fault("page 6 worth 5", 7);
        fault("page 6 wants", 12);
        fault("page 6 wants 1", 13);
        fault("page 6 wants 0 toes 5", 15);
        fault("page 6 wants 0 wants 0", 15);
        fault("page 6;page 7 wants 1;seat 8", 20);
        fault("page 6 page", 7);
        fault("cough", 5);
        fault("cough 0", 6);
        fault("cough 1", 6);
        fault("cough x", 6);
        fault("page 6" + (char) 233, 6);
        fault("page 6" + (char) 0, 6);
        ChairDance x = new ChairDance();
        Check.due("a seat there by then", Check.hallOf(x, "seat 8;page 7 wants 0"), 2);
    }

    /** In a hall with seat 0 on 5, held by nobody, and a page. */
    private static void fault(String text, int place) {
        ChairDance x = new ChairDance();
        x.seat(5, 1);
        x.comes(2, 9, 9);
        Check.due("fault of '" + text + "'", Check.hallOf(x, text), -1 - place);
        Check.due("tape after '" + text + "'", x.count(2), 0);
        Check.due("seats after '" + text + "'", x.count(1), 1);
        Check.due("court after '" + text + "'", x.count(0), 1);
        Check.due("no finding of '" + text + "'", x.status(-1), 0);
    }

    private static void tooMany() {
        ChairDance x = new ChairDance();
        Check.due("six", Check.hallOf(x, "seat 0;seat 1;seat 2;seat 3;seat 4;seat 5"), 6);
        Check.due("a 7th", Check.hallOf(x, " seat 0"), -1 - 1);
        Check.due("ten", Check.hallOf(x, "fat 0;fat 1;fat 2;fat 3;fat 4;fat 5;fat 6;fat 7;fat 8;fat 9"), 10);
        Check.due("an 11th", Check.hallOf(x, "  cook 100"), -1 - 2);
        ChairDance y = new ChairDance();
        Check.due("a 7th of one text", Check.hallOf(y, "seat 0;seat 1;seat 2;seat 3;seat 4;seat 5;seat 6"), -1 - 42);
        Check.due("none came", y.count(1), 0);
        Check.due("an 11th of one text",
                Check.hallOf(y, "fat 0;fat 0;fat 0;fat 0;fat 0;fat 0;fat 0;fat 0;fat 0;fat 0;page"), -1 - 60);
        Check.due("nobody came", y.count(0), 0);
    }

    private static void nothingChangesAtAFault() {
        ChairDance x = new ChairDance();
        x.seat(0, 1);
        x.comes(0, 0, 0);
        x.comes(0, 9, 0);
        x.seconds(1);
        Check.due("the last is wrong", Check.hallOf(x, "seat 7;cough 0;page 4;cough 1"), -1 - 28);
        Check.due("seats", x.count(1), 1);
        Check.due("court", x.count(0), 2);
        Check.due("holder", x.seatOf(0, 2), 0);
        Check.due("the other stands on 9", x.on(9), 2);
        Check.due("nothing is left on the tape", x.hall(), -1);
    }
}
