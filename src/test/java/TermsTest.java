/** What the document says ahead of the promises ("Terms"), from its first sentence to its last. */
public final class TermsTest {
    private static final int KINDS = 6;
    private static final int PAGE = 2;

    public static void main(String[] args) {
        findings();
        findingsInLongs();
        sets();
        spots();
        seatsAtFirst();
        courtAtFirst();
        kindsUnderKinds();
        far();
        leans();
        takesOffice();
        stays();
        goes();
        nextIsLeastFar();
        nextHasMoreToes();
        nextIsTheLeast();
        falls();
        rises();
        whoGoes();
        stepsByRowAndColumn();
        stepsByNumbers();
        stepsAreAheadOfSeats();
        noWayRoundAPage();
        seatsByNumbers();
        risesForALaterSeat();
        risesNotForAnEarlierSeat();
        paidAtTheEnd();
        secondAtFirstAndLast();
        text();
        on();
        sheets();
        Check.end();
    }

    // ---- findings, sets

    private static void findings() {
        ChairDance x = new ChairDance();
        Check.due("BEYOND", x.seat(-1, 0), -1000000001L);
        for (int i = 0; i < 10; i++) {
            x.comes(0, i, 0);
        }
        Check.due("FULL", x.comes(0, 0, 0), -1000000002L);
        Check.due("KIND", x.as(0, 1), -1000000003L);
        Check.due("NONE", x.coughFor(0), -1000000004L);
        x.seat(0, 0);
        Check.due("STATE", x.cough(0), -1000000005L);
        Check.due("MISSING", x.lays(0), -1000000006L);
        Check.due("SIZE", x.sheet(0, 8, -1), -1000000007L);
        Check.due("all seven", x.status(-1), 7);
    }

    private static void findingsInLongs() {
        ChairDance x = new ChairDance();
        x.sheet(0, 64, 1);
        Check.due("BEYOND in a long, no sheet", x.write(4, 0, 0), -1000000001L);
        Check.due("MISSING in a long", x.write(1, 0, 0), -1000000006L);
        Check.due("BEYOND in a long, no number", x.write(0, 1, 0), -1000000001L);
    }

    private static void sets() {
        ChairDance x = new ChairDance();
        for (int i = 0; i < 10; i++) {
            x.comes(0, i < 5 ? 10 : 20, 0);
        }
        Check.due("five as a set", x.on(10), 1 + 2 + 4 + 8 + 16);
        Check.due("five more", x.on(20), 32 + 64 + 128 + 256 + 512);
        Check.due("an empty set", x.on(30), 0);
        x.seat(10, 1);
        x.seat(20, 1);
        x.seconds(1);
        Check.due("those who sit as a set", x.count(3), 1 + 32);
        Check.due("the others stand", x.on(10), 2 + 4 + 8 + 16);
    }

    // ---- section 1: the hall, the court

    private static void spots() {
        ChairDance x = new ChairDance();
        x.comes(PAGE, 0, 0);
        for (int spot = 0; spot < 100; spot++) {
            int row = spot / 10;
            int column = spot - 10 * row;
            Check.due("spot " + spot, x.far(0, spot), 100 * (row * row + column * column));
        }
    }

    private static void seatsAtFirst() {
        ChairDance x = new ChairDance();
        int[] on = {99, 0, 50, 5, 10, 1};
        for (int s = 0; s < 6; s++) {
            Check.due("seats are numbered", x.seat(on[s], 10 * s), s);
        }
        for (int s = 0; s < 6; s++) {
            Check.due("its spot", x.seatOf(s, 0), on[s]);
            Check.due("its worth", x.seatOf(s, 1), 10 * s);
            Check.due("held by nobody at first", x.seatOf(s, 2), -1);
        }
    }

    private static void courtAtFirst() {
        ChairDance x = new ChairDance();
        x.seat(0, 1);
        for (int i = 0; i < 10; i++) {
            Check.due("they are numbered", x.comes(i % KINDS, 9 * i, 11 * i), i);
        }
        for (int i = 0; i < 10; i++) {
            int[] due = {i % KINDS, 9 * i, 11 * i, -1, 0, -1, 0};
            for (int what = 0; what < due.length; what++) {
                Check.due(i + " at first, " + what, x.of(i, what), due[what]);
            }
        }
    }

    private static void kindsUnderKinds() {
        ChairDance x = new ChairDance();
        boolean[][] is = {
            {true, false, false, false, false, false}, {true, true, false, false, false, false},
            {true, false, true, false, false, false}, {true, false, false, true, false, false},
            {true, false, false, true, true, false}, {true, true, false, false, false, true},
        };
        for (int kind = 0; kind < KINDS; kind++) {
            x.comes(kind, 0, 0);
            for (int other = 0; other < KINDS; other++) {
                Check.due(kind + " as " + other, x.as(kind, other), is[kind][other] ? 0 : Check.KIND);
            }
        }
    }

    private static void far() {
        int[] less = {9, 39, 0, 9, 18, 59};
        for (int kind = 0; kind < KINDS; kind++) {
            ChairDance x = new ChairDance();
            x.comes(kind, 37, 9);
            for (int spot = 0; spot < 100; spot++) {
                int rows = 3 - spot / 10;
                int columns = 7 - spot % 10;
                Check.due(kind + " from " + spot, x.far(0, spot),
                        100 * (rows * rows + columns * columns) - less[kind]);
            }
        }
    }

    private static void leans() {
        int[] toes = {0, 1, 50, 99};
        int[][] due = {
            {0, 1, 50, 99}, {30, 31, 80, 129}, {0, 0, 0, 0}, {0, 1, 50, 99}, {0, 2, 100, 198}, {50, 51, 100, 149},
        };
        for (int kind = 0; kind < KINDS; kind++) {
            for (int t = 0; t < toes.length; t++) {
                ChairDance x = new ChairDance();
                x.comes(kind, 37, toes[t]);
                Check.due("leans of " + kind + " with " + toes[t], x.of(0, 7), due[kind][t]);
            }
        }
    }

    private static void takesOffice() {
        for (int kind = 0; kind < KINDS; kind++) {
            ChairDance x = new ChairDance();
            x.seat(0, 1);
            x.comes(kind, 0, 9);
            Check.due(kind + " is next", x.seatOf(0, 3), kind == PAGE ? -1 : 0);
            x.seconds(1);
            Check.due(kind + " takes office", x.seatOf(0, 2), kind == PAGE ? -1 : 0);
        }
    }

    private static void stays() {
        int[] due = {10, 20, 10, 15, 4, 20};
        for (int kind = 0; kind < KINDS; kind++) {
            ChairDance x = new ChairDance();
            x.seat(0, 1);
            x.comes(0, 0, 0);
            x.seconds(1);
            x.turn(0, kind);
            Check.due(kind + " stays", x.of(0, 8), due[kind]);
            Check.due(kind + " sits to the last", x.holder(0, due[kind] - 1), 0);
            Check.due(kind + " rises", x.holder(0, due[kind]), -1);
        }
    }

    private static void goes() {
        ChairDance x = new ChairDance();
        for (int kind = 0; kind < KINDS; kind++) {
            x.comes(kind, 0, 0);
        }
        for (int second = 0; second < 14; second++) {
            int fat = second == 2 * (second / 2) ? 1 : 0;
            int stooled = second == 3 * (second / 3) ? 0 : 1;
            int[] due = {1, fat, 2, stooled, stooled, fat};
            for (int kind = 0; kind < KINDS; kind++) {
                Check.due(kind + " goes at " + second, x.of(kind, 9), due[kind]);
            }
            x.seconds(1);
        }
    }

    // ---- section 1: next, falls, rises

    private static void nextIsLeastFar() {
        ChairDance x = new ChairDance();
        x.seat(55, 1);
        x.comes(PAGE, 55, 99);
        x.comes(0, 59, 0);
        x.comes(0, 15, 1);
        Check.due("by one toe", x.seatOf(0, 3), 2);
        x.comes(5, 13, 0);
        Check.due("the cook is further in spite of his leans", x.seatOf(0, 3), 2);
        x.comes(5, 95, 0);
        Check.due("the cook leans more", x.seatOf(0, 3), 4);
        x.seconds(1);
        Check.due("of those who stand", x.seatOf(0, 3), 2);
    }

    private static void nextHasMoreToes() {
        ChairDance x = new ChairDance();
        x.seat(55, 1);
        x.comes(1, 56, 20);
        x.comes(0, 54, 50);
        Check.due("50 less for both", x.far(0, 55), x.far(1, 55));
        Check.due("as far, with more toes", x.seatOf(0, 3), 1);
        x.comes(4, 45, 25);
        Check.due("as far, with fewer toes", x.seatOf(0, 3), 1);
        x.comes(5, 65, 0);
        Check.due("as far, with none", x.seatOf(0, 3), 1);
    }

    private static void nextIsTheLeast() {
        ChairDance x = new ChairDance();
        x.seat(55, 1);
        x.comes(0, 95, 7);
        for (int i = 0; i < 4; i++) {
            x.comes(i % 2 == 0 ? 0 : 3, 44 + 2 * i, 7);
        }
        x.set(3, 1, 64);
        x.set(4, 1, 66);
        Check.due("of four as far, with as many toes", x.seatOf(0, 3), 1);
    }

    private static void falls() {
        ChairDance x = new ChairDance();
        x.seat(55, 1);
        x.seat(5, 1);
        x.comes(0, 55, 0);
        x.comes(0, 4, 0);
        x.comes(0, 99, 0);
        x.set(2, 3, 1);
        x.seconds(3);
        int was = x.of(2, 1);
        Check.due("he came nearer", was, 66);
        Check.due("it falls to the next", x.cough(0), 2);
        Check.due("he sits in it", x.of(2, 5), 0);
        Check.due("on its spot", x.of(2, 1), 55);
        Check.due("and has not sat yet", x.of(2, 6), 0);
        Check.due("his will stays", x.of(2, 3), 1);
        Check.due("nobody stands where he stood", x.on(was), 0);
    }

    private static void rises() {
        ChairDance x = new ChairDance();
        x.seat(55, 1);
        x.comes(0, 0, 0);
        x.comes(PAGE, 55, 0);
        x.seconds(7);
        Check.due("held by nobody", x.cough(0), -1);
        Check.due("he stands on the spot of the seat", x.on(55), 3);
        Check.due("he would be next now", x.seatOf(0, 3), 0);
        x.seconds(1);
        x.comes(0, 99, 0);
        Check.due("to the next but him", x.cough(0), 2);
        Check.due("who is much further", x.far(0, 55), 0);
        Check.due("and now he is next", x.seatOf(0, 3), 0);
    }

    // ---- section 1: how a second goes

    private static void whoGoes() {
        ChairDance x = new ChairDance();
        x.seat(0, 1);
        x.seat(99, 1);
        x.comes(0, 0, 0);
        x.comes(0, 99, 0);
        x.comes(0, 90, 0);
        x.set(0, 3, 1);
        x.seconds(4);
        Check.due("who sits goes nowhere", x.of(0, 1), 0);
        Check.due("nor does one without a will", x.of(2, 1), 90);
        x.cough(0);
        Check.due("from the seat's spot", x.where(0, 0), 0);
        Check.due("who stands and has a will goes", x.where(0, 1), 11);
        Check.due("and on", x.where(0, 3), 33);
        x.set(0, 3, 0);
        Check.due("who is there goes nowhere", x.where(0, 3), 0);
    }

    /** A seat on the spot that a fat one with all toes holds, and a courtier who wants it. */
    private static ChairDance wanted(int seat, int from) {
        ChairDance x = new ChairDance();
        x.seat(seat, 1);
        x.comes(1, seat, 99);
        x.comes(0, from, 0);
        x.set(1, 3, 0);
        return x;
    }

    private static void stepsByRowAndColumn() {
        ChairDance x = wanted(2, 70);
        int[] due = {70, 61, 52, 42, 32, 22, 12, 2, 2};
        for (int n = 0; n < due.length; n++) {
            Check.due("across, then straight on: " + n, x.where(1, n), due[n]);
        }
        ChairDance y = wanted(18, 1);
        int[] along = {1, 12, 13, 14, 15, 16, 17, 18, 18};
        for (int n = 0; n < along.length; n++) {
            Check.due("across, then along the row: " + n, y.where(1, n), along[n]);
        }
    }

    private static void stepsByNumbers() {
        ChairDance x = new ChairDance();
        x.seat(9, 1);
        x.comes(PAGE, 1, 0);
        x.comes(0, 0, 0);
        x.comes(0, 9, 99);
        x.set(0, 3, 0);
        x.set(1, 3, 0);
        Check.due("the page ahead of him by numbers has left", x.where(1, 1), 1);
        x.set(0, 1, 0);
        x.set(1, 1, 1);
        Check.due("and has overtaken him", x.where(0, 1), 2);
        Check.due("so that he waits", x.where(1, 1), 1);
        ChairDance y = wanted(9, 0);
        y.comes(PAGE, 1, 0);
        y.set(2, 3, 0);
        Check.due("a page behind him by numbers is still there", y.where(1, 1), 0);
        Check.due("though he goes, too", y.where(2, 1), 3);
    }

    private static void stepsAreAheadOfSeats() {
        ChairDance x = new ChairDance();
        x.seat(55, 1);
        x.comes(0, 57, 0);
        x.comes(0, 58, 1);
        x.set(1, 3, 0);
        Check.due("the first is nearer", x.seatOf(0, 3), 0);
        x.seconds(1);
        Check.due("but not when the other has gone a step", x.seatOf(0, 2), 1);
    }

    private static void noWayRoundAPage() {
        ChairDance x = wanted(99, 0);
        x.comes(PAGE, 11, 0);
        Check.due("he waits", x.where(1, 15), 0);
        x.set(2, 1, 10);
        Check.due("a page beside is not in the way", x.where(1, 1), 11);
        x.set(2, 1, 22);
        Check.due("one step, then he waits", x.where(1, 15), 11);
        x.turn(1, PAGE);
        Check.due("a page has no way round, either", x.where(1, 15), 11);
    }

    private static void seatsByNumbers() {
        ChairDance x = new ChairDance();
        x.seat(90, 1);
        x.seat(0, 1);
        x.comes(0, 0, 0);
        x.comes(0, 99, 0);
        Check.due("both are as far from the first", x.far(0, 90), x.far(1, 90));
        Check.due("two seats fall", x.seconds(1), 2);
        Check.due("the first to the least, though he stood on the second", x.seatOf(0, 2), 0);
        Check.due("the second to who is left", x.seatOf(1, 2), 1);
    }

    private static void risesForALaterSeat() {
        ChairDance x = new ChairDance();
        x.seat(0, 3);
        x.seat(99, 50);
        x.comes(4, 0, 0);
        x.seconds(4);
        Check.due("he has sat 4", x.of(0, 6), 4);
        x.seconds(1);
        Check.due("he rises and sits in the later one at once", x.of(0, 5), 1);
        Check.due("anew", x.of(0, 6), 1);
        Check.due("held by nobody", x.seatOf(0, 2), -1);
        Check.due("paid by the later one alone", x.of(0, 4), 4 * 3 + 50);
    }

    private static void risesNotForAnEarlierSeat() {
        ChairDance x = new ChairDance();
        x.seat(0, 3);
        x.seat(99, 50);
        x.comes(0, 0, 0);
        x.comes(0, 99, 0);
        x.seconds(1);
        x.turn(0, PAGE);
        x.cough(0);
        Check.due("he sits to the last", x.holder(1, 9), 1);
        Check.due("he rises when the earlier one has had its turn", x.holder(0, 10), -1);
        Check.due("and stands", x.holder(1, 10), -1);
        Check.due("unpaid", x.coins(1, 10), 10 * 50);
        Check.due("a second later it falls to him", x.holder(0, 11), 1);
        Check.due("and the other to nobody", x.holder(1, 11), -1);
        Check.due("paid by it", x.coins(1, 11), 10 * 50 + 3);
    }

    private static void paidAtTheEnd() {
        ChairDance x = new ChairDance();
        x.seat(0, 8);
        x.comes(0, 5, 0);
        x.comes(0, 95, 0);
        x.seconds(1);
        Check.due("sat is 1 more at once", x.of(0, 6), 1);
        Check.due("paid at once", x.of(0, 4), 8);
        Check.due("who stands is not", x.of(1, 4), 0);
        x.worth(0, 11);
        x.turn(0, PAGE);
        x.seconds(1);
        Check.due("a page who sits is paid, too, by the new worth", x.of(0, 4), 8 + 11);
        x.seconds(9);
        Check.due("who rises is not paid", x.of(0, 4), 8 + 9 * 11);
        Check.due("who sits down is", x.of(1, 4), 11);
        Check.due("and has sat 1", x.of(1, 6), 1);
        Check.due("who rises keeps none of what he has sat", x.of(0, 6), 0);
    }

    private static void secondAtFirstAndLast() {
        ChairDance x = new ChairDance();
        Check.due("second 0", x.now(0), 0);
        for (int second = 1; second <= 5; second++) {
            x.seconds(1);
            Check.due("one more", x.now(0), second);
        }
        x.seconds(194);
        for (int i = 0; i < 49; i++) {
            x.seconds(200);
        }
        Check.due("the last", x.now(0), 9999);
        Check.due("no more", x.seconds(1), Check.STATE);
    }

    // ---- section 1: the text; sections 2 and 3

    private static void text() {
        ChairDance x = new ChairDance();
        Check.due("a text of each item",
                Check.hallOf(x, "seat 44;seat 9 worth 20;courtier 45 toes 5 wants 1;page 0"), 4);
        x.seconds(1);
        Check.due("and a cough", Check.hallOf(x, "cook 43;cough 0;cough 0"), 3);
        Check.due("seat 0 is worth 5", x.seatOf(0, 1), 5);
        Check.due("seat 1 is worth 20", x.seatOf(1, 1), 20);
        Check.due("the cook came and went", x.seatOf(0, 2), 0);
        int[][] due = {{0, 44, 5, 1}, {2, 0, 0, -1}, {5, 44, 0, -1}};
        for (int i = 0; i < due.length; i++) {
            for (int what = 0; what < 4; what++) {
                Check.due(i + " by the text, " + what, x.of(i, what), due[i][what]);
            }
        }
        Check.due("a fault is no finding", Check.hallOf(x, "cough 1"), -1 - 6);
        Check.due("none was answered", x.status(-1), 0);
    }

    private static void on() {
        Twins.asked("on: holder", Halls::full, Twins.made(Halls::full).holder(3, 200), x -> x.holder(3, 200));
        ChairDance x = Twins.made(Halls::full);
        int[] holders = new int[6];
        for (int s = 0; s < 6; s++) {
            holders[s] = x.holder(s, 57);
        }
        x.seconds(57);
        for (int s = 0; s < 6; s++) {
            Check.due("on: as it came to be, " + s, x.seatOf(s, 2), holders[s]);
        }
    }

    private static void sheets() {
        ChairDance x = new ChairDance();
        int[] bits = {8, 16, 64};
        for (int s = 0; s < 4; s++) {
            Check.due("missing at first: " + s, x.write(s, 0, 0), Check.MISSING);
            Check.due("at most 40: " + s, x.sheet(s, bits[s % 3], 40), 40);
            Check.due("the last: " + s, x.write(s, 39, -1), 0);
            Check.due("as it was written: " + s, x.write(s, 39, 0), -1);
            Check.due("no more: " + s, x.write(s, 40, 0), Check.BEYOND);
        }
        Check.due("no sheet 4", x.sheet(4, 8, 1), Check.BEYOND);
    }
}
