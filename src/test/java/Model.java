import java.util.ArrayList;
import java.util.Arrays;
import java.util.List;

/**
 * The document once more, written word for word and without regard to cost, for ModelTest: it
 * copies the whole hall for each question, reads the text from a list of tokens, and tries out
 * every spot of a guard.
 */
final class Model {
    private static final int BEYOND = -1000000001;
    private static final int FULL = -1000000002;
    private static final int KIND = -1000000003;
    private static final int NONE = -1000000004;
    private static final int STATE = -1000000005;
    private static final int MISSING = -1000000006;
    private static final int SIZE = -1000000007;

    private static final List<String> NAMES =
            List.of("courtier", "fat", "page", "stooled", "feigner", "cook");

    private static final class Person {
        int kind;
        int spot;
        int toes;
        int will = -1;
        int coins = 0;
        int seat = -1;
        int sat = 0;

        Person copy() {
            Person p = new Person();
            p.kind = kind;
            p.spot = spot;
            p.toes = toes;
            p.will = will;
            p.coins = coins;
            p.seat = seat;
            p.sat = sat;
            return p;
        }

        boolean stands() {
            return seat < 0;
        }

        int leans() {
            return leansAs(kind);
        }

        int leansAs(int k) {
            return switch (k) {
                case 0 -> toes;
                case 1 -> leansAs(0) + 30;
                case 2 -> 0;
                case 3 -> leansAs(0);
                case 4 -> 2 * leansAs(3);
                default -> leansAs(1) + 20;
            };
        }

        int stays() {
            return staysAs(kind);
        }

        int staysAs(int k) {
            return switch (k) {
                case 0 -> 10;
                case 1 -> 2 * staysAs(0);
                case 2 -> staysAs(0);
                case 3 -> staysAs(0) + 5;
                case 4 -> 4;
                default -> staysAs(1);
            };
        }

        int goes(int second) {
            return goesAs(kind, second);
        }

        int goesAs(int k, int second) {
            return switch (k) {
                case 0 -> 1;
                case 1 -> second % 2 == 0 ? goesAs(0, second) : 0;
                case 2 -> 2;
                case 3 -> second % 3 == 0 ? 0 : goesAs(0, second);
                case 4 -> goesAs(3, second);
                default -> goesAs(1, second);
            };
        }

        int far(int to) {
            int dr = Math.abs(spot / 10 - to / 10);
            int dc = Math.abs(spot % 10 - to % 10);
            return 100 * (dr * dr + dc * dc) - leans();
        }
    }

    private static final class Chair {
        int spot;
        int worth;
        int holder = -1;

        Chair copy() {
            Chair c = new Chair();
            c.spot = spot;
            c.worth = worth;
            c.holder = holder;
            return c;
        }
    }

    private static final class Room {
        List<Chair> chairs = new ArrayList<>();
        List<Person> people = new ArrayList<>();
        int second = 0;

        Room copy() {
            Room r = new Room();
            for (Chair c : chairs) {
                r.chairs.add(c.copy());
            }
            for (Person p : people) {
                r.people.add(p.copy());
            }
            r.second = second;
            return r;
        }

        int nextBut(int seat, int but) {
            List<Integer> able = new ArrayList<>();
            for (int i = 0; i < people.size(); i++) {
                if (people.get(i).stands() && people.get(i).kind != 2 && i != but) {
                    able.add(i);
                }
            }
            int spot = chairs.get(seat).spot;
            able.sort((a, b) -> {
                Person p = people.get(a);
                Person q = people.get(b);
                int c = Integer.compare(p.far(spot), q.far(spot));
                c = c != 0 ? c : Integer.compare(q.toes, p.toes);
                return c != 0 ? c : Integer.compare(a, b);
            });
            return able.isEmpty() ? -1 : able.get(0);
        }

        void fallsTo(int seat, int who) {
            chairs.get(seat).holder = who;
            if (who >= 0) {
                people.get(who).seat = seat;
                people.get(who).spot = chairs.get(seat).spot;
                people.get(who).sat = 0;
            }
        }

        void rises(int seat) {
            int who = chairs.get(seat).holder;
            people.get(who).seat = -1;
            people.get(who).sat = 0;
            people.get(who).spot = chairs.get(seat).spot;
            fallsTo(seat, nextBut(seat, who));
        }

        void step(int i) {
            Person p = people.get(i);
            int to = chairs.get(p.will).spot;
            int row = p.spot / 10;
            int column = p.spot % 10;
            if (row != to / 10) {
                row += row < to / 10 ? 1 : -1;
            }
            if (column != to % 10) {
                column += column < to % 10 ? 1 : -1;
            }
            for (int j = 0; j < people.size(); j++) {
                Person q = people.get(j);
                if (j != i && q.kind == 2 && q.stands() && q.spot == 10 * row + column) {
                    return;
                }
            }
            p.spot = 10 * row + column;
        }

        Room on(int n) {
            Room r = copy();
            for (int k = 0; k < n; k++) {
                r.goOn();
            }
            return r;
        }

        void goOn() {
            for (int i = 0; i < people.size(); i++) {
                Person p = people.get(i);
                if (p.stands() && p.will >= 0) {
                    for (int k = p.goes(second); k > 0; k--) {
                        step(i);
                    }
                }
            }
            for (int s = 0; s < chairs.size(); s++) {
                int who = chairs.get(s).holder;
                if (who < 0) {
                    fallsTo(s, nextBut(s, -1));
                } else if (people.get(who).sat >= people.get(who).stays()) {
                    rises(s);
                }
            }
            for (Person p : people) {
                if (!p.stands()) {
                    p.sat += 1;
                    p.coins += chairs.get(p.seat).worth;
                }
            }
            second += 1;
        }
    }

    private Room room = new Room();
    private Room image = null;
    private List<Integer> tape = new ArrayList<>();
    private final long[][] sheets = new long[4][];
    private final int[] bitsOf = new int[4];
    private final int[] found = new int[7];

    private int tell(int finding) {
        found[BEYOND - finding]++;
        return finding;
    }

    private boolean noOne(int one) {
        return one < 0 || one >= room.people.size();
    }

    private boolean noSeat(int seat) {
        return seat < 0 || seat >= room.chairs.size();
    }

    private static boolean out(int v, int most) {
        return v < 0 || v > most;
    }

    public int seat(int spot, int worth) {
        if (out(spot, 99) || out(worth, 99)) {
            return tell(BEYOND);
        }
        for (Chair c : room.chairs) {
            if (c.spot == spot) {
                return tell(STATE);
            }
        }
        if (room.chairs.size() == 6) {
            return tell(FULL);
        }
        Chair c = new Chair();
        c.spot = spot;
        c.worth = worth;
        room.chairs.add(c);
        return room.chairs.size() - 1;
    }

    public int seatOf(int seat, int what) {
        if (noSeat(seat) || out(what, 3)) {
            return tell(BEYOND);
        }
        Chair c = room.chairs.get(seat);
        return new int[] {c.spot, c.worth, c.holder, room.nextBut(seat, -1)}[what];
    }

    public int worth(int seat, int v) {
        if (noSeat(seat) || out(v, 99)) {
            return tell(BEYOND);
        }
        int was = room.chairs.get(seat).worth;
        room.chairs.get(seat).worth = v;
        return was;
    }

    public int comes(int kind, int spot, int toes) {
        if (out(kind, 5) || out(spot, 99) || out(toes, 99)) {
            return tell(BEYOND);
        }
        if (room.people.size() == 10) {
            return tell(FULL);
        }
        Person p = new Person();
        p.kind = kind;
        p.spot = spot;
        p.toes = toes;
        room.people.add(p);
        return room.people.size() - 1;
    }

    public int of(int one, int what) {
        if (noOne(one) || out(what, 9)) {
            return tell(BEYOND);
        }
        Person p = room.people.get(one);
        return new int[] {p.kind, p.spot, p.toes, p.will, p.coins, p.seat, p.sat, p.leans(),
            p.stays(), p.goes(room.second)}[what];
    }

    public int set(int one, int what, int v) {
        if (noOne(one) || what < 1 || what > 3 || what < 3 && out(v, 99)
                || what == 3 && v != -1 && noSeat(v)) {
            return tell(BEYOND);
        }
        Person p = room.people.get(one);
        if (what == 1 && !p.stands()) {
            return tell(STATE);
        }
        int was = what == 1 ? p.spot : what == 2 ? p.toes : p.will;
        p.spot = what == 1 ? v : p.spot;
        p.toes = what == 2 ? v : p.toes;
        p.will = what == 3 ? v : p.will;
        return was;
    }

    public int turn(int one, int kind) {
        if (noOne(one) || out(kind, 5)) {
            return tell(BEYOND);
        }
        int was = room.people.get(one).kind;
        room.people.get(one).kind = kind;
        return was;
    }

    public int as(int one, int kind) {
        if (noOne(one) || out(kind, 5)) {
            return tell(BEYOND);
        }
        int k = room.people.get(one).kind;
        boolean is = kind == 0 || kind == k || k == 4 && kind == 3 || k == 5 && kind == 1;
        return is ? room.people.get(one).coins : tell(KIND);
    }

    public int far(int one, int spot) {
        return noOne(one) || out(spot, 99) ? tell(BEYOND) : room.people.get(one).far(spot);
    }

    public int on(int spot) {
        if (out(spot, 99)) {
            return tell(BEYOND);
        }
        int set = 0;
        for (int i = 0; i < room.people.size(); i++) {
            Person p = room.people.get(i);
            set += p.stands() && p.spot == spot ? 1 << i : 0;
        }
        return set;
    }

    public int cough(int seat) {
        if (noSeat(seat)) {
            return tell(BEYOND);
        }
        if (room.chairs.get(seat).holder < 0) {
            return tell(STATE);
        }
        room.rises(seat);
        return room.chairs.get(seat).holder;
    }

    public int seconds(int n) {
        if (n < 1 || n > 200) {
            return tell(BEYOND);
        }
        if (room.second + n > 9999) {
            return tell(STATE);
        }
        Room was = room;
        room = room.on(n);
        int others = 0;
        for (int s = 0; s < room.chairs.size(); s++) {
            others += room.chairs.get(s).holder != was.chairs.get(s).holder ? 1 : 0;
        }
        return others;
    }

    public int now(int what) {
        if (out(what, 3)) {
            return tell(BEYOND);
        }
        int empty = 0;
        for (Chair c : room.chairs) {
            empty += c.holder < 0 ? 1 : 0;
        }
        int coins = 0;
        for (Person p : room.people) {
            coins += p.coins;
        }
        return new int[] {room.second, room.chairs.size() - empty, empty, coins}[what];
    }

    public int holder(int seat, int n) {
        if (noSeat(seat) || out(n, 200)) {
            return tell(BEYOND);
        }
        return room.second + n > 9999 ? tell(STATE) : room.on(n).chairs.get(seat).holder;
    }

    public int where(int one, int n) {
        if (noOne(one) || out(n, 200)) {
            return tell(BEYOND);
        }
        return room.second + n > 9999 ? tell(STATE) : room.on(n).people.get(one).spot;
    }

    public int coins(int one, int n) {
        if (noOne(one) || out(n, 200)) {
            return tell(BEYOND);
        }
        return room.second + n > 9999 ? tell(STATE) : room.on(n).people.get(one).coins;
    }

    public int gets(int one, int seat) {
        if (noOne(one) || noSeat(seat)) {
            return tell(BEYOND);
        }
        if (room.second > 9799) {
            return tell(STATE);
        }
        Room r = room;
        for (int n = 0; n <= 200; n++) {
            if (r.chairs.get(seat).holder == one) {
                return n;
            }
            r = r.on(1);
        }
        return tell(NONE);
    }

    public int rich(int n) {
        if (out(n, 200)) {
            return tell(BEYOND);
        }
        if (room.second + n > 9999) {
            return tell(STATE);
        }
        List<Person> people = room.on(n).people;
        int best = -1;
        for (int i = people.size() - 1; i >= 0; i--) {
            best = best < 0 || people.get(i).coins >= people.get(best).coins ? i : best;
        }
        return best < 0 ? tell(NONE) : best;
    }

    private boolean mayNot(int one) {
        return !room.people.get(one).stands() || room.people.get(one).kind == 2;
    }

    private boolean nextFrom(int one, int spot, int seat) {
        Room r = room.copy();
        r.people.get(one).spot = spot;
        return r.nextBut(seat, -1) == one;
    }

    public int spots(int one, int seat) {
        if (noOne(one) || noSeat(seat)) {
            return tell(BEYOND);
        }
        if (mayNot(one)) {
            return tell(STATE);
        }
        int many = 0;
        for (int spot = 0; spot < 100; spot++) {
            many += nextFrom(one, spot, seat) ? 1 : 0;
        }
        return many;
    }

    public int nearest(int one, int seat) {
        if (noOne(one) || noSeat(seat)) {
            return tell(BEYOND);
        }
        if (mayNot(one)) {
            return tell(STATE);
        }
        int own = room.people.get(one).spot;
        for (int steps = 0; steps < 10; steps++) {
            for (int spot = 0; spot < 100; spot++) {
                int away = Math.max(Math.abs(own / 10 - spot / 10), Math.abs(own % 10 - spot % 10));
                if (away == steps && nextFrom(one, spot, seat)) {
                    return spot;
                }
            }
        }
        return tell(NONE);
    }

    private int worthOf(int one, int spot) {
        int sum = 0;
        for (int s = 0; s < room.chairs.size(); s++) {
            sum += nextFrom(one, spot, s) ? room.chairs.get(s).worth : 0;
        }
        return sum;
    }

    public int place(int one, int spot) {
        if (noOne(one) || out(spot, 99)) {
            return tell(BEYOND);
        }
        return mayNot(one) ? tell(STATE) : worthOf(one, spot);
    }

    public int best(int one) {
        if (noOne(one)) {
            return tell(BEYOND);
        }
        if (mayNot(one)) {
            return tell(STATE);
        }
        int best = 0;
        for (int spot = 1; spot < 100; spot++) {
            best = worthOf(one, spot) > worthOf(one, best) ? spot : best;
        }
        return best;
    }

    public int coughFor(int one) {
        if (noOne(one)) {
            return tell(BEYOND);
        }
        if (!room.people.get(one).stands()) {
            return tell(STATE);
        }
        int best = -1;
        int most = -1;
        for (int s = 0; s < room.chairs.size(); s++) {
            Room r = room.copy();
            if (r.chairs.get(s).holder < 0) {
                continue;
            }
            r.rises(s);
            int got = r.people.get(one).seat;
            if (got >= 0 && r.chairs.get(got).worth > most) {
                best = s;
                most = r.chairs.get(got).worth;
            }
        }
        return best < 0 ? tell(NONE) : best;
    }

    public int twice(int one, int seat) {
        if (noOne(one) || noSeat(seat)) {
            return tell(BEYOND);
        }
        for (int pair = 0; pair < 60; pair++) {
            Room r = room.copy();
            int[] coughs = {pair / 10, pair % 10};
            int heard = 0;
            for (int s : coughs) {
                if (s < r.chairs.size() && r.chairs.get(s).holder >= 0) {
                    r.rises(s);
                    heard++;
                }
            }
            if (heard == 2 && r.chairs.get(seat).holder == one) {
                return pair;
            }
        }
        return tell(NONE);
    }

    public int will(int one, int n) {
        if (noOne(one) || n < 1 || n > 100) {
            return tell(BEYOND);
        }
        if (room.second + n > 9999) {
            return tell(STATE);
        }
        int[] coins = new int[room.chairs.size() + 1];
        for (int w = -1; w < room.chairs.size(); w++) {
            Room r = room.copy();
            r.people.get(one).will = w;
            coins[w + 1] = r.on(n).people.get(one).coins;
        }
        return firstOfMost(coins) - 1;
    }

    public int kind(int one, int n) {
        if (noOne(one) || n < 1 || n > 100) {
            return tell(BEYOND);
        }
        if (room.second + n > 9999) {
            return tell(STATE);
        }
        int[] coins = new int[6];
        for (int k = 0; k < 6; k++) {
            Room r = room.copy();
            r.people.get(one).kind = k;
            coins[k] = r.on(n).people.get(one).coins;
        }
        return firstOfMost(coins);
    }

    private static int firstOfMost(int[] values) {
        int most = Arrays.stream(values).max().getAsInt();
        int i = 0;
        while (values[i] != most) {
            i++;
        }
        return i;
    }

    public int guard(int page, int seat) {
        if (noOne(page) || noSeat(seat)) {
            return tell(BEYOND);
        }
        Person p = room.people.get(page);
        if (p.kind != 2 || !p.stands() || room.chairs.get(seat).holder < 0 || room.second > 9899) {
            return tell(STATE);
        }
        int best = p.spot;
        int longest = heldFrom(page, p.spot, seat);
        for (int spot = 0; spot < 100; spot++) {
            int held = heldFrom(page, spot, seat);
            if (held > longest) {
                best = spot;
                longest = held;
            }
        }
        return best;
    }

    private int heldFrom(int page, int spot, int seat) {
        Room r = room.copy();
        int who = r.chairs.get(seat).holder;
        r.people.get(page).spot = spot;
        int held = 0;
        while (held < 100) {
            r.goOn();
            if (r.chairs.get(seat).holder != who) {
                break;
            }
            held++;
        }
        return held;
    }

    public int feed(int bytes, int n) {
        if (n < 1 || n > 4) {
            return tell(BEYOND);
        }
        if (tape.size() + n > 120) {
            return tell(FULL);
        }
        int[] four = {bytes >> 24 & 255, bytes >> 16 & 255, bytes >> 8 & 255, bytes & 255};
        for (int i = 4 - n; i < 4; i++) {
            tape.add(four[i]);
        }
        return tape.size();
    }

    public int wipe() {
        int had = tape.size();
        tape.clear();
        return had;
    }

    /** A token as a text, with its place; the end is an empty one. */
    private record Token(String text, int place) {
        boolean isNumber() {
            return text.matches("[0-9]+");
        }

        /** -1, if it is no number from 0 to most. */
        int number(int most) {
            if (!isNumber()) {
                return -1;
            }
            java.math.BigInteger v = new java.math.BigInteger(text);
            return v.compareTo(java.math.BigInteger.valueOf(most)) > 0 ? -1 : v.intValue();
        }
    }

    private List<Token> tokens() {
        StringBuilder all = new StringBuilder();
        for (int b : tape) {
            all.append((char) b);
        }
        List<Token> tokens = new ArrayList<>();
        java.util.regex.Matcher m =
                java.util.regex.Pattern.compile("(?s)[a-z]+|[0-9]+|[^ ]").matcher(all);
        while (m.find()) {
            tokens.add(new Token(m.group(), m.start()));
        }
        tokens.add(new Token("", tape.size()));
        return tokens;
    }

    public int hall() {
        Room before = room.copy();
        int[] foundBefore = found.clone();
        List<Token> tokens = tokens();
        int answer = items(tokens);
        if (answer < 0) {
            room = before;
        }
        System.arraycopy(foundBefore, 0, found, 0, 7);
        tape = new ArrayList<>();
        return answer;
    }

    /** Each item is tried as far as it goes; at the first token that can't stand there it ends. */
    private int items(List<Token> tokens) {
        int at = 0;
        int items = 0;
        while (true) {
            String word = tokens.get(at).text;
            int kind = NAMES.indexOf(word);
            boolean isSeat = word.equals("seat");
            boolean isCough = word.equals("cough");
            if (!isSeat && !isCough && kind < 0 || isSeat && room.chairs.size() == 6
                    || kind >= 0 && room.people.size() == 10) {
                return -1 - tokens.get(at).place;
            }
            at++;
            int first = tokens.get(at).number(99);
            if (first < 0 || isCough && (noSeat(first) || room.chairs.get(first).holder < 0)
                    || isSeat && room.chairs.stream().anyMatch(c -> c.spot == first)) {
                return -1 - tokens.get(at).place;
            }
            at++;
            int second = isSeat ? 5 : 0;
            String more = isSeat ? "worth" : kind >= 0 ? "toes" : "?";
            if (tokens.get(at).text.equals(more)) {
                second = tokens.get(at + 1).number(99);
                if (second < 0) {
                    return -1 - tokens.get(at + 1).place;
                }
                at += 2;
            }
            if (isSeat) {
                seat(first, second);
            } else if (isCough) {
                room.rises(first);
            } else {
                comes(kind, first, second);
                if (tokens.get(at).text.equals("wants")) {
                    int w = tokens.get(at + 1).number(room.chairs.size() - 1);
                    if (w < 0) {
                        return -1 - tokens.get(at + 1).place;
                    }
                    set(room.people.size() - 1, 3, w);
                    at += 2;
                }
            }
            items++;
            if (tokens.get(at).text.isEmpty()) {
                return items;
            }
            if (!tokens.get(at).text.equals(";")) {
                return -1 - tokens.get(at).place;
            }
            at++;
        }
    }

    private static boolean noSheet(int s) {
        return s < 0 || s > 3;
    }

    public int sheet(int s, int bits, int n) {
        if (noSheet(s) || !List.of(0, 8, 16, 64).contains(bits)) {
            return tell(BEYOND);
        }
        if (n < 0) {
            return tell(SIZE);
        }
        if (n > 40) {
            return tell(BEYOND);
        }
        bitsOf[s] = bits;
        sheets[s] = bits == 0 ? null : new long[n];
        return bits == 0 ? 0 : n;
    }

    private long cut(int s, long v) {
        int off = 64 - bitsOf[s];
        return v << off >> off;
    }

    public long write(int s, int i, long v) {
        if (noSheet(s)) {
            return tell(BEYOND);
        }
        if (sheets[s] == null) {
            return tell(MISSING);
        }
        if (i < 0 || i >= sheets[s].length) {
            return tell(BEYOND);
        }
        long was = sheets[s][i];
        sheets[s][i] = cut(s, v);
        return was;
    }

    public int copy(int s, int from, int t, int to, int n) {
        if (noSheet(s) || noSheet(t)) {
            return tell(BEYOND);
        }
        if (sheets[s] == null || sheets[t] == null) {
            return tell(MISSING);
        }
        if (bitsOf[s] != bitsOf[t]) {
            return tell(KIND);
        }
        if (from < 0 || to < 0 || n < 0 || (long) from + n > sheets[s].length
                || (long) to + n > sheets[t].length) {
            return tell(BEYOND);
        }
        long[] old = sheets[s].clone();
        for (int i = 0; i < n; i++) {
            sheets[t][to + i] = old[from + i];
        }
        return n;
    }

    public int lays(int s) {
        if (noSheet(s)) {
            return tell(BEYOND);
        }
        if (sheets[s] == null) {
            return tell(MISSING);
        }
        int came = 0;
        for (int i = 0; i < sheets[s].length; i++) {
            long w = sheets[s][i];
            if (i < room.people.size() && w >= -1 && w < room.chairs.size()) {
                room.people.get(i).will = (int) w;
                came++;
            }
        }
        return came;
    }

    public int roll(int s, int n) {
        if (noSheet(s)) {
            return tell(BEYOND);
        }
        if (sheets[s] == null) {
            return tell(MISSING);
        }
        if (out(n, 200)) {
            return tell(BEYOND);
        }
        if (room.second + n > 9999) {
            return tell(STATE);
        }
        int i = 0;
        for (Chair c : room.on(n).chairs) {
            if (i < sheets[s].length) {
                sheets[s][i] = cut(s, c.holder);
                i++;
            }
        }
        return i;
    }

    public int read(int s, int seat) {
        if (noSheet(s)) {
            return tell(BEYOND);
        }
        if (sheets[s] == null) {
            return tell(MISSING);
        }
        if (noSeat(seat)) {
            return tell(BEYOND);
        }
        if (room.second > 9959) {
            return tell(STATE);
        }
        for (int i = 0; i < sheets[s].length; i++) {
            if (room.on(i).chairs.get(seat).holder != sheets[s][i]) {
                return 1 + i;
            }
        }
        return 0;
    }

    public int image() {
        image = room.copy();
        return 1;
    }

    public int undo() {
        if (image == null) {
            return tell(NONE);
        }
        room = image.copy();
        return room.people.size();
    }

    public int tear() {
        int was = image == null ? 0 : 1;
        image = null;
        return was;
    }

    public int count(int what) {
        if (out(what, 3)) {
            return tell(BEYOND);
        }
        int set = 0;
        for (Chair c : room.chairs) {
            set |= c.holder < 0 ? 0 : 1 << c.holder;
        }
        return new int[] {room.people.size(), room.chairs.size(), tape.size(), set}[what];
    }

    public int status(int which) {
        if (which < -1 || which > 6) {
            return tell(BEYOND);
        }
        return which < 0 ? Arrays.stream(found).sum() : found[which];
    }
}
