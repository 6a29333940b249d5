/** Every call in a hall of 6 seats and 10 in the court, and on full tapes and sheets. */
public final class FullHallTest {
    public static void main(String[] args) {
        ask(hall());
        ask(seated());
        ask(later());
        sheets(seated());
        tape(seated());
        images(seated());
        Check.end();
    }

    private static ChairDance hall() {
        ChairDance x = new ChairDance();
        for (int s = 0; s < 6; s++) {
            x.seat(11 * s, 10 * s);
        }
        for (int i = 0; i < 10; i++) {
            x.comes(i % 6, 99 - i, i);
            x.set(i, 3, i % 6);
        }
        Check.due("an 11th", x.comes(0, 0, 0), Check.FULL);
        return x;
    }

    private static ChairDance seated() {
        ChairDance x = hall();
        Check.due("they sit", x.seconds(1), 6);
        return x;
    }

    private static ChairDance later() {
        ChairDance x = seated();
        x.seconds(200);
        return x;
    }

    private static void images(ChairDance x) {
        Check.due("image", x.image(), 1);
        x.seconds(200);
        Check.due("200 seconds later", x.now(0), 201);
        Check.due("undo", x.undo(), 10);
        Check.due("second", x.now(0), 1);
    }

    /** Some 450 calls; the object has no more than 512 in all. */
    private static void ask(ChairDance x) {
        int findings = x.status(0);
        int coins = 0;
        int seated = 0;
        for (int one = 0; one < 10; one++) {
            for (int seat = 0; seat < 6; seat++) {
                x.gets(one, seat);
                x.spots(one, seat);
                x.nearest(one, seat);
                x.twice(one, seat);
                x.guard(one, seat);
                seated += x.seatOf(seat, 2) == one ? 1 : 0;
            }
            x.best(one);
            x.place(one, 99);
            x.coughFor(one);
            coins += x.of(one, 4);
            Check.due("will", x.will(one, 100) <= 5 ? 1 : 0, 1);
            Check.due("kind", x.kind(one, 100) <= 5 ? 1 : 0, 1);
            Check.due("where", x.where(one, 200) <= 99 ? 1 : 0, 1);
            Check.due("coins", x.coins(one, 0), x.of(one, 4));
        }
        Check.due("rich", x.rich(200) <= 9 ? 1 : 0, 1);
        Check.due("all coins", x.now(3), coins);
        Check.due("all who sit", x.now(1), seated);
        Check.due("empty seats", x.now(2), 6 - seated);
        Check.due("nothing of it is beyond", x.status(0), findings);
    }

    private static void sheets(ChairDance x) {
        Check.due("as many as can be", x.sheet(0, 64, 40), 40);
        Check.due("roll", x.roll(0, 200), 6);
        Check.due("read", x.read(0, 5) > 0 ? 1 : 0, 1);
        Check.due("copy", x.copy(0, 0, 0, 20, 20), 20);
        Check.due("the last", x.write(0, 39, 5), 0);
        x.sheet(1, 8, 40);
        for (int i = 0; i < 40; i++) {
            x.write(1, i, 5);
        }
        Check.due("ten wills", x.lays(1), 10);
        Check.due("the last one's", x.of(9, 3), 5);
    }

    private static void tape(ChairDance x) {
        // A word, a number, blanks up to the last byte that there can be.
        String[] ends = {"a", "7", " ", ";"};
        int[] faults = {0, 0, 120, 0};
        for (int e = 0; e < ends.length; e++) {
            int b = ends[e].charAt(0);
            for (int i = 0; i < 30; i++) {
                x.feed(b << 24 | b << 16 | b << 8 | b, 4);
            }
            Check.due("120 of '" + ends[e] + "'", x.hall(), -1 - faults[e]);
        }
        for (int i = 0; i < 15; i++) {
            x.feed('c' << 24 | 'o' << 16 | 'u' << 8 | 'g', 4);
            x.feed('h' << 24 | ' ' << 16 | '5' << 8 | (i < 14 ? ';' : ' '), 4);
        }
        Check.due("15 coughs", x.hall(), 15);
        for (int i = 0; i < 15; i++) {
            x.feed('c' << 24 | 'o' << 16 | 'u' << 8 | 'g', 4);
            x.feed('h' << 24 | ' ' << 16 | '5' << 8 | ';', 4);
        }
        Check.due("15 coughs and no more", x.hall(), -1 - 120);
    }
}
