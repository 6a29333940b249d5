/** Promises 15 to 19. */
public final class OnTest {
    public static void main(String[] args) {
        holder();
        where();
        coins();
        gets();
        rich();
        late();
        nothingChanges();
        Check.end();
    }

    /** Seat 0 at 44 worth 10, held by 0 from second 1 on; 1 comes from 40; 2 is a page. */
    private static ChairDance hall() {
        ChairDance x = new ChairDance();
        x.seat(44, 10);
        x.comes(0, 44, 0);
        x.comes(3, 40, 0);
        x.comes(2, 99, 0);
        x.set(1, 3, 0);
        return x;
    }

    private static void holder() {
        ChairDance x = hall();
        Check.due("0", x.holder(0, 0), -1);
        Check.due("1", x.holder(0, 1), 0);
        Check.due("10", x.holder(0, 10), 0);
        Check.due("11", x.holder(0, 11), 1);
        Check.due("25", x.holder(0, 25), 1);
        Check.due("26", x.holder(0, 26), 0);
        Check.due("200: they take turns every 25", x.holder(0, 200), 1);
        Check.due("201", x.holder(0, 201), Check.BEYOND);
        Check.due("-1", x.holder(0, -1), Check.BEYOND);
        Check.due("no seat", x.holder(1, 0), Check.BEYOND);
        Check.due("no seat", x.holder(-1, 0), Check.BEYOND);
    }

    private static void where() {
        ChairDance x = hall();
        int[] due = {40, 40, 41, 42, 42, 43, 44, 44};
        for (int n = 0; n < due.length; n++) {
            Check.due("where " + n, x.where(1, n), due[n]);
        }
        Check.due("200", x.where(2, 200), 99);
        Check.due("201", x.where(2, 201), Check.BEYOND);
        Check.due("-1", x.where(2, -1), Check.BEYOND);
        Check.due("nobody", x.where(3, 0), Check.BEYOND);
        Check.due("nobody", x.where(-1, 0), Check.BEYOND);
    }

    private static void coins() {
        ChairDance x = hall();
        Check.due("0", x.coins(0, 0), 0);
        Check.due("7", x.coins(0, 7), 70);
        Check.due("11", x.coins(0, 11), 100);
        Check.due("the other, 11", x.coins(1, 11), 10);
        Check.due("the other, 200", x.coins(1, 200), 1200);
        Check.due("200", x.coins(0, 200), 800);
        Check.due("201", x.coins(0, 201), Check.BEYOND);
        Check.due("-1", x.coins(0, -1), Check.BEYOND);
        Check.due("nobody", x.coins(3, 0), Check.BEYOND);
        Check.due("nobody", x.coins(-1, 0), Check.BEYOND);
    }

    private static void gets() {
        ChairDance x = hall();
        Check.due("at once", x.gets(0, 0), 1);
        Check.due("the other", x.gets(1, 0), 11);
        Check.due("a page never", x.gets(2, 0), Check.NONE);
        Check.due("no seat", x.gets(0, 1), Check.BEYOND);
        Check.due("no seat", x.gets(0, -1), Check.BEYOND);
        Check.due("nobody", x.gets(3, 0), Check.BEYOND);
        x.seconds(1);
        Check.due("he holds it", x.gets(0, 0), 0);
        ChairDance y = new ChairDance();
        Check.hallOf(y, "seat 80 worth 1;seat 88 worth 1;seat 74 worth 1");
        Check.hallOf(y, "stooled 8 toes 30;fat 17 toes 30 wants 1;cook 5 wants 2");
        Check.hallOf(y, "courtier 4 toes 30 wants 1;feigner 81 wants 0");
        Check.due("in 201", y.gets(3, 1), Check.NONE);
        y.seconds(1);
        Check.due("in 200", y.gets(3, 1), 200);
        Check.due("as the holder tells", y.holder(1, 200), 3);
        y.seconds(199);
        Check.due("in 1", y.gets(3, 1), 1);
    }

    private static void rich() {
        ChairDance x = new ChairDance();
        Check.due("nobody", x.rich(0), Check.NONE);
        Check.due("BEYOND ahead of NONE", x.rich(201), Check.BEYOND);
        Check.due("BEYOND ahead of NONE", x.rich(-1), Check.BEYOND);
        x = hall();
        Check.due("of several the least", x.rich(0), 0);
        Check.due("10", x.rich(10), 0);
        Check.due("20", x.rich(20), 0);
        Check.due("21: 100 against 110", x.rich(21), 1);
        Check.due("29: 140 against 150", x.rich(29), 1);
        Check.due("30: as many", x.rich(30), 0);
        Check.due("200", x.rich(200), 1);
        Check.due("201", x.rich(201), Check.BEYOND);
    }

    private static void late() {
        ChairDance x = hall();
        for (int i = 0; i < 48; i++) {
            x.seconds(200);
        }
        x.seconds(199);
        Check.due("second", x.now(0), 9799);
        Check.due("gets", x.gets(2, 0), Check.NONE);
        Check.due("holder", x.holder(0, 200), x.holder(0, 200));
        Check.due("rich to the last", x.rich(200), 1);
        x.seconds(1);
        Check.due("gets above 9799", x.gets(2, 0), Check.STATE);
        Check.due("BEYOND ahead of STATE", x.gets(3, 0), Check.BEYOND);
        Check.due("holder above 9999", x.holder(0, 200), Check.STATE);
        Check.due("where above 9999", x.where(0, 200), Check.STATE);
        Check.due("coins above 9999", x.coins(0, 200), Check.STATE);
        Check.due("rich above 9999", x.rich(200), Check.STATE);
        Check.due("where to the last", x.where(2, 199), 99);
        Check.due("holder BEYOND ahead", x.holder(1, 200), Check.BEYOND);
        Check.due("where BEYOND ahead", x.where(3, 200), Check.BEYOND);
        Check.due("coins BEYOND ahead", x.coins(0, 201), Check.BEYOND);
        ChairDance y = new ChairDance();
        for (int i = 0; i < 49; i++) {
            y.seconds(200);
        }
        Check.due("rich: STATE ahead of NONE", y.rich(200), Check.STATE);
        Check.due("rich: NONE", y.rich(199), Check.NONE);
    }

    private static void nothingChanges() {
        ChairDance x = hall();
        x.holder(0, 200);
        x.where(1, 200);
        x.coins(0, 200);
        x.gets(2, 0);
        x.rich(200);
        Check.due("second", x.now(0), 0);
        Check.due("coins", x.now(3), 0);
        Check.due("spot", x.of(1, 1), 40);
        Check.due("holder", x.seatOf(0, 2), -1);
    }
}
