import java.util.function.Consumer;

/** The boundary cases that promises 29 to 31, and the text of a hall, name. */
public final class BoundsOfTextTest {
    public static void main(String[] args) {
        feedBeyondN();
        feedFull();
        feedHighestFirst();
        wipeEmptyAndFull();
        emptyText();
        fullTape();
        tokensAsLongAsCanBe();
        numbersUpTo9999();
        blanksBetween();
        bytesThatBeginNoToken();
        wordsThatAreNone();
        seatSpot();
        seatWorth();
        seatOnASeat();
        seatForA7th();
        oneSpot();
        oneToes();
        oneWants();
        oneForAn11th();
        everyKind();
        coughHeld();
        endsTooEarly();
        whatMayNotFollow();
        itemsComeInTheirOrder();
        faultChangesNothingButTheTape();
        Check.end();
    }

    // ---- promise 29

    private static void feedBeyondN() {
        Twins.beyondOutside("feed: n", Halls::small, 1, 4, (x, v) -> x.feed('a', v));
        ChairDance x = new ChairDance();
        Check.due("feed: 1", x.feed('a', 1), 1);
        Check.due("feed: 4", x.feed('a', 4), 5);
    }

    private static Consumer<ChairDance> fed(int bytes) {
        return x -> Halls.feed(x, "a".repeat(bytes));
    }

    private static void feedFull() {
        for (int n = 1; n <= 4; n++) {
            int m = n;
            Check.due("feed: the last " + n, Twins.made(fed(120 - n)).feed(0, n), 120);
            Twins.refused("feed: one too many of " + n, fed(121 - n), Check.FULL, x -> x.feed(0, m));
            Twins.refused("feed: a full tape, " + n, fed(120), Check.FULL, x -> x.feed(0, m));
        }
        Twins.beyondOutside("feed: BEYOND ahead of FULL", fed(120), 1, 4, (x, v) -> x.feed(0, v));
        ChairDance x = Twins.made(fed(120));
        x.wipe();
        Check.due("feed: after a wipe", x.feed('a', 1), 1);
    }

    private static void feedHighestFirst() {
        ChairDance x = new ChairDance();
        int seat = 's' << 24 | 'e' << 16 | 'a' << 8 | 't';
        int[] heads = {0, -1, 0x7fffffff, 0x80000000};
        for (int i = 0; i < heads.length; i++) {
            x.feed(seat, 4);
            x.feed(heads[i] << 24 | ' ' << 16 | '1' << 8 | '0' + i, 3);
            x.feed(heads[i] << 16 | ' ' << 8 | 'w', 2);
            x.feed('o' << 16 | 'r' << 8 | 't', 3);
            x.feed(heads[i] << 8 | 'h', 1);
            x.feed(heads[i] << 8 | '1' + i, 1);
            Check.due("feed: a seat by bytes", x.hall(), 1);
            Check.due("feed: its spot", x.seatOf(i, 0), 10 + i);
            Check.due("feed: its worth", x.seatOf(i, 1), 1 + i);
        }
    }

    // ---- promise 30

    private static void wipeEmptyAndFull() {
        Twins.asked("wipe: empty", Halls::empty, 0, x -> x.wipe());
        Check.due("wipe: full", Twins.made(fed(120)).wipe(), 120);
        Twins.acted("wipe: then it is empty", fed(120), 120, x -> x.wipe(), x -> x.hall());
        Twins.acted("wipe: once is enough", Halls::small, 6, x -> x.wipe(), x -> {
            x.wipe();
            Check.due("wipe: nothing more", x.wipe(), 0);
        });
    }

    // ---- promise 31

    /** The small hall, or another one, with an empty tape. */
    private static Consumer<ChairDance> wiped(Consumer<ChairDance> hall) {
        return x -> {
            hall.accept(x);
            x.wipe();
        };
    }

    /** The text has a fault there; nothing changes but that the tape is empty; no finding. */
    private static void fault(Consumer<ChairDance> hall, String text, int place) {
        Twins.asked("fault of '" + text + "'", wiped(hall), -1 - place, x -> {
            Halls.feed(x, text);
            return x.hall();
        });
    }

    private static void fault(String text, int place) {
        fault(Halls::small, text, place);
    }

    /** The items come, as if by the other calls. */
    private static void items(Consumer<ChairDance> hall, String text, int many, Consumer<ChairDance> others) {
        Twins.acted("items of '" + text + "'", wiped(hall), many, x -> {
            Halls.feed(x, text);
            return x.hall();
        }, others);
    }

    private static void items(String text, int many, Consumer<ChairDance> others) {
        items(Halls::small, text, many, others);
    }

    private static void emptyText() {
        fault("", 0);
        fault(" ", 1);
        fault("    ", 4);
        fault(Halls::empty, "", 0);
    }

    private static void fullTape() {
        String coughs = "cough 0;".repeat(14) + "cough 0 ";
        items(coughs, 15, x -> {
            for (int i = 0; i < 15; i++) {
                x.cough(0);
            }
        });
        fault("cough 0;".repeat(15), 120);
        fault(" ".repeat(120), 120);
        fault(" ".repeat(119) + ";", 119);
        fault("a".repeat(120), 0);
        fault("7".repeat(120), 0);
        fault(";".repeat(120), 0);
        fault("seat " + "9".repeat(115), 5);
        items(" ".repeat(113) + "seat 77", 1, x -> x.seat(77, 5));
        items("seat " + "0".repeat(113) + "77", 1, x -> x.seat(77, 5));
        fault(" ".repeat(116) + "seat", 120);
    }

    private static void tokensAsLongAsCanBe() {
        items("seat77worth9", 1, x -> x.seat(77, 9));
        items("fat8toes9wants1", 1, x -> {
            x.comes(1, 8, 9);
            x.set(4, 3, 1);
        });
        items("seat 77", 1, x -> x.seat(77, 5));
        fault("seat 7 7", 7);
        fault("seatworth 7", 0);
        fault("sea t 7", 0);
        fault("seats 7", 0);
        fault("seat 7worths 7", 6);
        fault("seat 7wor th 7", 6);
        fault("seat 777", 5);
    }

    private static void numbersUpTo9999() {
        fault("seat 9999", 5);
        fault("seat 10000", 5);
        fault("page 4 toes 9999", 12);
        fault("page 4 toes 10000", 12);
        fault("page 4 wants 9999", 13);
        fault("page 4 wants 10000", 13);
        fault("cough 9999", 6);
        fault("cough 10000", 6);
        fault("cough 65536", 6);
        fault("cough 4294967296", 6);
        fault("seat 4294967301", 5);
        fault("seat 18446744073709551621", 5);
        items("seat 0077", 1, x -> x.seat(77, 5));
        items("cough 00000", 1, x -> x.cough(0));
    }

    private static void blanksBetween() {
        items("seat 77 worth 9", 1, x -> x.seat(77, 9));
        items("  seat   77   worth   9  ", 1, x -> x.seat(77, 9));
        items("seat 77 ; page 8", 2, x -> {
            x.seat(77, 5);
            x.comes(2, 8, 0);
        });
        items("seat77;page8", 2, x -> {
            x.seat(77, 5);
            x.comes(2, 8, 0);
        });
        fault("seat" + (char) 9 + "7", 4);
        fault("seat" + (char) 10 + "7", 4);
        fault("seat" + (char) 160 + "7", 4);
    }

    private static void bytesThatBeginNoToken() {
        // The bytes next to a and z, to 0 and 9, to ; and to the blank, and the ends of a byte.
        int[] none = {0, 1, 31, 33, '/', ':', '<', '`', '{', 'A', 'S', 'Z', '-', '+', ',', '.', 127, 128, 224, 255};
        for (int b : none) {
            fault((char) b + "seat 77", 0);
            fault("seat " + (char) b, 5);
            fault("seat 77" + (char) b, 7);
            fault("seat 77;" + (char) b, 8);
            fault("sea" + (char) b, 0);
        }
    }

    private static void wordsThatAreNone() {
        String[] none = {
            "a", "z", "zz", "sea", "seats", "eat", "aseat", "courtie", "courtiers", "fa", "fats", "pag", "pages",
            "stool", "stooledd", "feigne", "feigners", "coo", "cooks", "coug", "coughs", "worth", "toes", "wants",
        };
        for (String word : none) {
            fault(word + " 7", 0);
            fault("seat 77 ; " + word, 10);
            fault("seat 77 " + (word.equals("worth") ? "toes" : word) + " 7", 8);
        }
    }

    private static void seatSpot() {
        items("seat 0", 1, x -> x.seat(0, 5));
        items("seat 99", 1, x -> x.seat(99, 5));
        fault("seat 100", 5);
        fault("seat -1", 5);
    }

    private static void seatWorth() {
        items("seat 7", 1, x -> x.seat(7, 5));
        items("seat 7 worth 0", 1, x -> x.seat(7, 0));
        items("seat 7 worth 99", 1, x -> x.seat(7, 99));
        fault("seat 7 worth 100", 13);
        fault("seat 7 worth -1", 13);
        fault("seat 7 worth x", 13);
        fault("seat 7 worth 5 worth 5", 15);
        fault("seat 7 worth 5 toes 5", 15);
        fault("seat 7 toes 5", 7);
        fault("seat 7 wants 0", 7);
    }

    private static void seatOnASeat() {
        fault("seat 44", 5);
        fault("seat 9 worth 5", 5);
        fault("seat 77;seat 77", 13);
        fault("seat 77;seat 0078;seat 078", 23);
        items("seat 40", 1, x -> x.seat(40, 5));
    }

    private static void seatForA7th() {
        items("seat 1;seat 2;seat 3;seat 4", 4, x -> {
            for (int spot = 1; spot <= 4; spot++) {
                x.seat(spot, 5);
            }
        });
        fault("seat 1;seat 2;seat 3;seat 4;seat 5", 28);
        fault("seat 1;seat 2;seat 3;seat 4; seat", 29);
        fault("seat 1;seat 2;seat 3;seat 4;seat x", 28);
        fault("seat 1;seat 2;seat 3;seat 4;page 5;seat 44", 35);
        fault(Halls::full, "seat 99", 0);
        fault(Halls::full, "cough 0;seat 99", 8);
    }

    private static void oneSpot() {
        items("courtier 0", 1, x -> x.comes(0, 0, 0));
        items("courtier 99", 1, x -> x.comes(0, 99, 0));
        items("page 44;page 40", 2, x -> {
            x.comes(2, 44, 0);
            x.comes(2, 40, 0);
        });
        fault("courtier 100", 9);
        fault("courtier -1", 9);
        fault("courtier x", 9);
    }

    private static void oneToes() {
        items("fat 7", 1, x -> x.comes(1, 7, 0));
        items("fat 7 toes 0", 1, x -> x.comes(1, 7, 0));
        items("fat 7 toes 99", 1, x -> x.comes(1, 7, 99));
        fault("fat 7 toes 100", 11);
        fault("fat 7 toes -1", 11);
        fault("fat 7 toes wants 0", 11);
        fault("fat 7 toes 5 toes 5", 13);
        fault("fat 7 worth 5", 6);
    }

    private static void oneWants() {
        items("cook 7 wants 0", 1, x -> {
            x.comes(5, 7, 0);
            x.set(4, 3, 0);
        });
        items("cook 7 toes 3 wants 1", 1, x -> {
            x.comes(5, 7, 3);
            x.set(4, 3, 1);
        });
        fault("cook 7 wants 2", 13);
        fault("cook 7 wants -1", 13);
        fault("cook 7 wants x", 13);
        fault("cook 7 wants 0 wants 0", 15);
        fault("cook 7 wants 0 toes 5", 15);
        fault("cook 7 wants 2;seat 8", 13);
        items("seat 8;cook 7 wants 2", 2, x -> {
            x.seat(8, 5);
            x.comes(5, 7, 0);
            x.set(4, 3, 2);
        });
        fault(Halls::empty, "cook 7 wants 0", 13);
        fault("seat 1;seat 2;seat 3;seat 4;cook 7 wants 6", 41);
        items("seat 1;seat 2;seat 3;seat 4;cook 7 wants 5", 5, x -> {
            for (int spot = 1; spot <= 4; spot++) {
                x.seat(spot, 5);
            }
            x.comes(5, 7, 0);
            x.set(4, 3, 5);
        });
    }

    private static void oneForAn11th() {
        items("fat 0;fat 1;fat 2;fat 3;fat 4;fat 5", 6, x -> {
            for (int spot = 0; spot < 6; spot++) {
                x.comes(1, spot, 0);
            }
        });
        String[] names = {"courtier", "fat", "page", "stooled", "feigner", "cook"};
        for (String name : names) {
            fault("fat 0;fat 1;fat 2;fat 3;fat 4;fat 5;" + name + " 6", 36);
            fault(Halls::full, name, 0);
            fault(Halls::full, "  " + name + " 100", 2);
            fault(Halls::full, "cough 0;" + name + " x", 8);
        }
    }

    private static void everyKind() {
        String[] names = {"courtier", "fat", "page", "stooled", "feigner", "cook"};
        for (int kind = 0; kind < 6; kind++) {
            int k = kind;
            items(names[kind] + " 50", 1, x -> x.comes(k, 50, 0));
        }
    }

    private static void coughHeld() {
        items("cough 0", 1, x -> x.cough(0));
        items("cough 1", 1, x -> x.cough(1));
        fault("cough 2", 6);
        fault("cough -1", 6);
        fault("cough x", 6);
        fault("seat 77;cough 2", 14);
        fault("cough 0 worth 5", 8);
        fault("cough 0 toes 5", 8);
        fault("cough 0 0", 8);
        fault(Halls::empty, "cough 0", 6);
        Consumer<ChairDance> alone = x -> {
            x.seat(0, 1);
            x.comes(0, 0, 0);
            x.seconds(1);
        };
        items(alone, "cough 0", 1, x -> x.cough(0));
        fault(alone, "cough 0;cough 0", 14);
        items(alone, "page 1;cough 0", 2, x -> {
            x.comes(2, 1, 0);
            x.cough(0);
        });
        items(alone, "fat 1;cough 0;cough 0", 3, x -> {
            x.comes(1, 1, 0);
            x.cough(0);
            x.cough(0);
        });
        items(Halls::full, "cough 5", 1, x -> x.cough(5));
        fault(Halls::full, "cough 6", 6);
    }

    private static void endsTooEarly() {
        String[] early = {
            "seat", "seat ", "seat 77 worth", "seat 77 worth  ", "seat 77;", "seat 77; ", "page", "page 4 toes",
            "page 4 wants", "page 4 toes 5 wants ", "page 4;", "cough", "cough ", "cough 0;", "cough 0 ; ",
        };
        for (String text : early) {
            fault(text, text.length());
        }
    }

    private static void whatMayNotFollow() {
        fault(";", 0);
        fault("7", 0);
        fault(";seat 7", 0);
        fault("seat 7;;", 7);
        fault("seat 7;7", 7);
        fault("seat ;", 5);
        fault("seat seat", 5);
        fault("seat 7 worth;", 12);
        fault("seat 7 seat 8", 7);
        fault("seat 7 worth 5 5", 15);
        fault("page ;", 5);
        fault("page 4 5", 7);
        fault("page 4 page 5", 7);
        fault("page 4 toes ;", 12);
        fault("page 4 toes 5 5", 14);
        fault("page 4 wants ;", 13);
        fault("page 4 wants 0 0", 15);
        fault("cough ;", 6);
        fault("cough 0 cough 1", 8);
    }

    private static void itemsComeInTheirOrder() {
        items("seat 77 worth 99;courtier 45 toes 99 wants 2;cough 0;cough 1;page 0", 5, x -> {
            x.seat(77, 99);
            x.comes(0, 45, 99);
            x.set(4, 3, 2);
            x.cough(0);
            x.cough(1);
            x.comes(2, 0, 0);
        });
    }

    /** A fault behind items that could have come: none of them did. */
    private static void faultChangesNothingButTheTape() {
        fault("seat 77;cough 0;fat 4 wants 2;cough 1;", 38);
        fault("cough 0;cough 1;seat 100", 21);
        ChairDance x = Twins.made(Halls::small);
        Halls.feed(x, "!");
        Check.due("fault: behind what was there", x.hall(), -1 - 6);
        Check.due("fault: the tape is empty", x.count(2), 0);
        Check.due("fault: no finding", x.status(-1), 0);
        Check.due("fault: the next text begins anew", Check.hallOf(x, "page 7"), 1);
    }
}
