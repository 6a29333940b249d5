import java.util.function.Consumer;

/** Halls in which the boundary cases are tried. Each stays under 100 calls. */
final class Halls {
    private Halls() {
    }

    static void empty(ChairDance x) {
    }

    /**
     * Second 2. Seats: 0 on 44, worth 10, held by 0; 1 on 9, worth 20, held by 3. The court: 0 a
     * courtier who sits (sat 2, 20 coins), 1 a page who stands on 40, 2 a stooled one who stands on
     * 61 and wants seat 0, 3 a cook who sits (sat 2, 40 coins). Sheets: 0 with 3 numbers of 8 bits
     * (1, -1, 7), 1 with 2 of 16 bits, 2 with none of 64 bits, 3 missing. The tape: page 4. An image
     * is kept of the second ahead.
     */
    static void small(ChairDance x) {
        x.seat(44, 10);
        x.seat(9, 20);
        x.comes(0, 44, 3);
        x.comes(2, 40, 5);
        x.comes(3, 70, 8);
        x.comes(5, 99, 1);
        x.set(2, 3, 0);
        x.seconds(1);
        x.image();
        x.seconds(1);
        x.sheet(0, 8, 3);
        x.write(0, 0, 1);
        x.write(0, 1, -1);
        x.write(0, 2, 7);
        x.sheet(1, 16, 2);
        x.sheet(2, 64, 0);
        feed(x, "page 4");
    }

    /**
     * Second 1. Six seats on 0, 11, .. 55, each worth 99, held by 0, 1, 3, 4, 5, 6; ten in the
     * court, on 90 to 99 at first, with 99 toes; 7 (fat, on 97) and 9 (stooled, on 99) stand, and
     * the pages 2 (on 92) and 8 (on 98). The tape has 120 bytes, each sheet 40 numbers of 64 bits.
     */
    static void full(ChairDance x) {
        for (int s = 0; s < 6; s++) {
            x.seat(11 * s, 99);
        }
        for (int i = 0; i < 10; i++) {
            x.comes(i % 6, 90 + i, 99);
        }
        x.seconds(1);
        x.image();
        for (int s = 0; s < 4; s++) {
            x.sheet(s, 64, 40);
        }
        for (int i = 0; i < 30; i++) {
            x.feed(' ' << 24 | ' ' << 16 | ' ' << 8 | ' ', 4);
        }
    }

    /** Seconds go, in a hall at second 0, until it is that one. */
    static void goTo(ChairDance x, int second) {
        for (int gone = 0; gone < second; gone += 200) {
            x.seconds(Math.min(200, second - gone));
        }
        Check.due("the hall's second", x.now(0), second);
    }

    static Consumer<ChairDance> emptyAt(int second) {
        return x -> goTo(x, second);
    }

    /** No seats, and a page alone. */
    static Consumer<ChairDance> emptyAndOneAt(int second) {
        return x -> {
            x.comes(2, 0, 0);
            goTo(x, second);
        };
    }

    /** Seat 0 on 44, 0 a courtier, 1 a page on 40; one sheet of 3 numbers, another of none. */
    static Consumer<ChairDance> lateAt(int second) {
        return x -> {
            x.seat(44, 10);
            x.comes(0, 44, 3);
            x.comes(2, 40, 5);
            x.sheet(0, 8, 3);
            x.sheet(1, 64, 0);
            goTo(x, second);
        };
    }

    /** Four bytes a call, what is left in one more. */
    static void feed(ChairDance x, String text) {
        for (int at = 0; at < text.length(); at += 4) {
            int n = Math.min(4, text.length() - at);
            int bytes = 0;
            for (int k = 0; k < n; k++) {
                bytes = bytes << 8 | text.charAt(at + k);
            }
            x.feed(bytes, n);
        }
    }
}
