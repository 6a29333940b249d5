/**
 * A hall in which an office falls to whoever stands nearest when its holder rises. Every call
 * answers a number; a call that can't be carried out answers a finding, which status() counts.
 */
public final class ChairDance {
    private static final int FIRST_FINDING = -1000000001;
    private static final int BEYOND = 0;
    private static final int FULL = 1;
    private static final int KIND = 2;
    private static final int NONE = 3;
    private static final int STATE = 4;
    private static final int MISSING = 5;
    private static final int SIZE = 6;
    private static final int FINDINGS = 7;

    /** What stands for no holder, no seat, no spot and no kind. */
    private static final int ABSENT = -1;
    private static final int COURTIER = 0;
    private static final int FAT = 1;
    private static final int PAGE = 2;
    private static final int STOOLED = 3;
    private static final int FEIGNER = 4;
    private static final int COOK = 5;
    private static final int KINDS = 6;
    /** By kinds: the kind right above, how often toes count, what is added to them, the stay. */
    private static final int[] ABOVE = {-1, 0, 0, 0, 3, 1};
    private static final int[] TIMES_TOES = {1, 1, 0, 1, 2, 1};
    private static final int[] MORE_LEANS = {0, 30, 0, 0, 0, 50};
    private static final int[] STAYS = {10, 20, 10, 15, 4, 20};

    private static final int ROW = 10;
    private static final int SPOTS = 100;
    private static final int MOST_WORTH = 99;
    private static final int MOST_TOES = 99;
    private static final int MOST_SEATS = 6;
    private static final int MOST_ONES = 10;
    private static final int LAST_SECOND = 9999;
    private static final int MOST_SECONDS = 200;
    private static final int MOST_SECONDS_TO_CHOOSE = 100;
    private static final int MOST_BYTES = 120;
    private static final int SHEETS = 4;
    private static final int MOST_NUMBERS = 40;

    private final Hall present;
    /** What would come is played here, so that asking changes nothing and makes no new objects. */
    private final Hall trial;
    private final Hall kept;
    private boolean isKept;
    private final Tape tape;
    private final Sheet[] sheets;
    private final int[] found;

    public ChairDance() {
        present = new Hall();
        trial = new Hall();
        kept = new Hall();
        isKept = false;
        tape = new Tape();
        sheets = new Sheet[SHEETS];
        for (int s = 0; s < SHEETS; s++) {
            sheets[s] = new Sheet();
        }
        found = new int[FINDINGS];
    }

    // ---- seats, the court

    public int seat(int spot, int worth) {
        if (!isSpot(spot) || !isFromTo(worth, 0, MOST_WORTH)) {
            return finding(BEYOND);
        }
        if (present.seatOn(spot) != ABSENT) {
            return finding(STATE);
        }
        if (present.hasAllSeats()) {
            return finding(FULL);
        }
        return present.addSeat(spot, worth);
    }

    public int seatOf(int seat, int what) {
        if (!isSeat(seat)) {
            return finding(BEYOND);
        }
        switch (what) {
            case 0: return present.seats[seat].spot;
            case 1: return present.seats[seat].worth;
            case 2: return present.seats[seat].holder;
            case 3: return present.nextFor(seat);
            default: return finding(BEYOND);
        }
    }

    public int worth(int seat, int v) {
        if (!isSeat(seat) || !isFromTo(v, 0, MOST_WORTH)) {
            return finding(BEYOND);
        }
        int was = present.seats[seat].worth;
        present.seats[seat].worth = v;
        return was;
    }

    public int comes(int kind, int spot, int toes) {
        if (!isKind(kind) || !isSpot(spot) || !isFromTo(toes, 0, MOST_TOES)) {
            return finding(BEYOND);
        }
        if (present.hasAllOnes()) {
            return finding(FULL);
        }
        return present.addOne(kind, spot, toes);
    }

    public int of(int one, int what) {
        if (!isOne(one)) {
            return finding(BEYOND);
        }
        One him = present.ones[one];
        switch (what) {
            case 0: return him.kind;
            case 1: return him.spot;
            case 2: return him.toes;
            case 3: return him.will;
            case 4: return him.coins;
            case 5: return him.seat;
            case 6: return him.sat;
            case 7: return him.leans();
            case 8: return him.stays();
            case 9: return him.goes(present.second);
            default: return finding(BEYOND);
        }
    }

    public int set(int one, int what, int v) {
        if (!isOne(one)) {
            return finding(BEYOND);
        }
        switch (what) {
            case 1: return changeSpot(present.ones[one], v);
            case 2: return changeToes(present.ones[one], v);
            case 3: return changeWill(present.ones[one], v);
            default: return finding(BEYOND);
        }
    }

    private int changeSpot(One him, int spot) {
        if (!isSpot(spot)) {
            return finding(BEYOND);
        }
        if (him.sits()) {
            return finding(STATE);
        }
        int was = him.spot;
        him.spot = spot;
        return was;
    }

    private int changeToes(One him, int toes) {
        if (!isFromTo(toes, 0, MOST_TOES)) {
            return finding(BEYOND);
        }
        int was = him.toes;
        him.toes = toes;
        return was;
    }

    private int changeWill(One him, int seat) {
        if (seat != ABSENT && !isSeat(seat)) {
            return finding(BEYOND);
        }
        int was = him.will;
        him.will = seat;
        return was;
    }

    public int turn(int one, int kind) {
        if (!isOne(one) || !isKind(kind)) {
            return finding(BEYOND);
        }
        int was = present.ones[one].kind;
        present.ones[one].kind = kind;
        return was;
    }

    public int as(int one, int kind) {
        if (!isOne(one) || !isKind(kind)) {
            return finding(BEYOND);
        }
        if (!present.ones[one].isOfKind(kind)) {
            return finding(KIND);
        }
        return present.ones[one].coins;
    }

    public int far(int one, int spot) {
        if (!isOne(one) || !isSpot(spot)) {
            return finding(BEYOND);
        }
        return present.ones[one].distance(spot);
    }

    public int on(int spot) {
        if (!isSpot(spot)) {
            return finding(BEYOND);
        }
        return present.standersOn(spot);
    }

    // ---- coughs, seconds

    public int cough(int seat) {
        if (!isSeat(seat)) {
            return finding(BEYOND);
        }
        if (!present.isHeld(seat)) {
            return finding(STATE);
        }
        present.makeRise(seat);
        return present.seats[seat].holder;
    }

    public int seconds(int n) {
        if (!isFromTo(n, 1, MOST_SECONDS)) {
            return finding(BEYOND);
        }
        if (isTooLateFor(n)) {
            return finding(STATE);
        }
        trial.become(present);
        present.pass(n);
        int changed = 0;
        for (int s = 0; s < present.seatCount; s++) {
            if (present.seats[s].holder != trial.seats[s].holder) {
                changed++;
            }
        }
        return changed;
    }

    public int now(int what) {
        switch (what) {
            case 0: return present.second;
            case 1: return Integer.bitCount(present.sitters());
            case 2: return present.emptySeats();
            case 3: return present.allCoins();
            default: return finding(BEYOND);
        }
    }

    // ---- on

    public int holder(int seat, int n) {
        if (!isSeat(seat) || !isFromTo(n, 0, MOST_SECONDS)) {
            return finding(BEYOND);
        }
        if (isTooLateFor(n)) {
            return finding(STATE);
        }
        trial.become(present);
        trial.pass(n);
        return trial.seats[seat].holder;
    }

    public int where(int one, int n) {
        if (!isOne(one) || !isFromTo(n, 0, MOST_SECONDS)) {
            return finding(BEYOND);
        }
        if (isTooLateFor(n)) {
            return finding(STATE);
        }
        trial.become(present);
        trial.pass(n);
        return trial.ones[one].spot;
    }

    public int coins(int one, int n) {
        if (!isOne(one) || !isFromTo(n, 0, MOST_SECONDS)) {
            return finding(BEYOND);
        }
        if (isTooLateFor(n)) {
            return finding(STATE);
        }
        trial.become(present);
        trial.pass(n);
        return trial.ones[one].coins;
    }

    public int gets(int one, int seat) {
        if (!isOne(one) || !isSeat(seat)) {
            return finding(BEYOND);
        }
        if (isTooLateFor(MOST_SECONDS)) {
            return finding(STATE);
        }
        trial.become(present);
        for (int n = 0; n <= MOST_SECONDS; n++) {
            if (trial.seats[seat].holder == one) {
                return n;
            }
            trial.pass(1);
        }
        return finding(NONE);
    }

    public int rich(int n) {
        if (!isFromTo(n, 0, MOST_SECONDS)) {
            return finding(BEYOND);
        }
        if (isTooLateFor(n)) {
            return finding(STATE);
        }
        if (present.oneCount == 0) {
            return finding(NONE);
        }
        trial.become(present);
        trial.pass(n);
        return trial.richest();
    }

    // ---- where to stand, whom to cough at

    public int spots(int one, int seat) {
        if (!isOne(one) || !isSeat(seat)) {
            return finding(BEYOND);
        }
        if (!present.ones[one].mayTakeSeat()) {
            return finding(STATE);
        }
        trial.become(present);
        int many = 0;
        for (int spot = 0; spot < SPOTS; spot++) {
            if (isNextInTrialFrom(one, spot, seat)) {
                many++;
            }
        }
        return many;
    }

    public int nearest(int one, int seat) {
        if (!isOne(one) || !isSeat(seat)) {
            return finding(BEYOND);
        }
        if (!present.ones[one].mayTakeSeat()) {
            return finding(STATE);
        }
        trial.become(present);
        int from = present.ones[one].spot;
        int nearest = ABSENT;
        for (int spot = 0; spot < SPOTS; spot++) {
            boolean isNearer = nearest == ABSENT || steps(from, spot) < steps(from, nearest);
            if (isNearer && isNextInTrialFrom(one, spot, seat)) {
                nearest = spot;
            }
        }
        return nearest == ABSENT ? finding(NONE) : nearest;
    }

    public int place(int one, int spot) {
        if (!isOne(one) || !isSpot(spot)) {
            return finding(BEYOND);
        }
        if (!present.ones[one].mayTakeSeat()) {
            return finding(STATE);
        }
        trial.become(present);
        return worthInTrialFrom(one, spot);
    }

    public int best(int one) {
        if (!isOne(one)) {
            return finding(BEYOND);
        }
        if (!present.ones[one].mayTakeSeat()) {
            return finding(STATE);
        }
        trial.become(present);
        int best = 0;
        int most = -1;
        for (int spot = 0; spot < SPOTS; spot++) {
            int worth = worthInTrialFrom(one, spot);
            if (worth > most) {
                most = worth;
                best = spot;
            }
        }
        return best;
    }

    public int coughFor(int one) {
        if (!isOne(one)) {
            return finding(BEYOND);
        }
        if (present.ones[one].sits()) {
            return finding(STATE);
        }
        int best = ABSENT;
        for (int s = 0; s < present.seatCount; s++) {
            boolean isBetter = best == ABSENT || present.seats[s].worth > present.seats[best].worth;
            if (isBetter && present.isHeld(s) && present.nextFor(s) == one) {
                best = s;
            }
        }
        return best == ABSENT ? finding(NONE) : best;
    }

    public int twice(int one, int seat) {
        if (!isOne(one) || !isSeat(seat)) {
            return finding(BEYOND);
        }
        for (int first = 0; first < present.seatCount; first++) {
            for (int second = 0; second < present.seatCount; second++) {
                trial.become(present);
                if (coughInTrial(first) && coughInTrial(second)
                        && trial.seats[seat].holder == one) {
                    return 10 * first + second;
                }
            }
        }
        return finding(NONE);
    }

    public int will(int one, int n) {
        if (!isOne(one) || !isFromTo(n, 1, MOST_SECONDS_TO_CHOOSE)) {
            return finding(BEYOND);
        }
        if (isTooLateFor(n)) {
            return finding(STATE);
        }
        int best = ABSENT;
        int most = -1;
        for (int seat = ABSENT; seat < present.seatCount; seat++) {
            trial.become(present);
            trial.ones[one].will = seat;
            trial.pass(n);
            if (trial.ones[one].coins > most) {
                most = trial.ones[one].coins;
                best = seat;
            }
        }
        return best;
    }

    public int kind(int one, int n) {
        if (!isOne(one) || !isFromTo(n, 1, MOST_SECONDS_TO_CHOOSE)) {
            return finding(BEYOND);
        }
        if (isTooLateFor(n)) {
            return finding(STATE);
        }
        int best = COURTIER;
        int most = -1;
        for (int kind = 0; kind < KINDS; kind++) {
            trial.become(present);
            trial.ones[one].kind = kind;
            trial.pass(n);
            if (trial.ones[one].coins > most) {
                most = trial.ones[one].coins;
                best = kind;
            }
        }
        return best;
    }

    public int guard(int page, int seat) {
        if (!isOne(page) || !isSeat(seat)) {
            return finding(BEYOND);
        }
        One him = present.ones[page];
        if (him.kind != PAGE || him.sits() || !present.isHeld(seat)
                || isTooLateFor(MOST_SECONDS_TO_CHOOSE)) {
            return finding(STATE);
        }
        // A holder rises by how long he has sat and by his kind alone, never because of who comes
        // near: every spot of the page keeps him equally long, and of several his own is first.
        return him.spot;
    }

    // ---- the text

    public int feed(int bytes, int n) {
        if (!isFromTo(n, 1, 4)) {
            return finding(BEYOND);
        }
        if (tape.length > MOST_BYTES - n) {
            return finding(FULL);
        }
        for (int i = n - 1; i >= 0; i--) {
            tape.append(bytes >>> (8 * i) & 255);
        }
        return tape.length;
    }

    public int wipe() {
        int had = tape.length;
        tape.length = 0;
        return had;
    }

    public int hall() {
        trial.become(present);
        int answer = tape.enterInto(trial);
        if (answer >= 0) {
            present.become(trial);
        }
        tape.length = 0;
        return answer;
    }

    // ---- sheets

    public int sheet(int s, int bits, int n) {
        if (!isSheet(s) || bits != 0 && bits != 8 && bits != 16 && bits != 64) {
            return finding(BEYOND);
        }
        if (n < 0) {
            return finding(SIZE);
        }
        if (n > MOST_NUMBERS) {
            return finding(BEYOND);
        }
        sheets[s].layOut(bits, n);
        return sheets[s].length;
    }

    public long write(int s, int i, long v) {
        if (!isSheet(s)) {
            return finding(BEYOND);
        }
        if (sheets[s].isMissing()) {
            return finding(MISSING);
        }
        if (!isFromTo(i, 0, sheets[s].length - 1)) {
            return finding(BEYOND);
        }
        long was = sheets[s].numbers[i];
        sheets[s].put(i, v);
        return was;
    }

    public int copy(int s, int from, int t, int to, int n) {
        if (!isSheet(s) || !isSheet(t)) {
            return finding(BEYOND);
        }
        if (sheets[s].isMissing() || sheets[t].isMissing()) {
            return finding(MISSING);
        }
        if (sheets[s].bits != sheets[t].bits) {
            return finding(KIND);
        }
        if (!sheets[s].hasPart(from, n) || !sheets[t].hasPart(to, n)) {
            return finding(BEYOND);
        }
        System.arraycopy(sheets[s].numbers, from, sheets[t].numbers, to, n);
        return n;
    }

    public int lays(int s) {
        if (!isSheet(s)) {
            return finding(BEYOND);
        }
        if (sheets[s].isMissing()) {
            return finding(MISSING);
        }
        int last = Math.min(sheets[s].length, present.oneCount);
        int came = 0;
        for (int i = 0; i < last; i++) {
            long seat = sheets[s].numbers[i];
            if (seat >= ABSENT && seat < present.seatCount) {
                present.ones[i].will = (int) seat;
                came++;
            }
        }
        return came;
    }

    public int roll(int s, int n) {
        if (!isSheet(s)) {
            return finding(BEYOND);
        }
        if (sheets[s].isMissing()) {
            return finding(MISSING);
        }
        if (!isFromTo(n, 0, MOST_SECONDS)) {
            return finding(BEYOND);
        }
        if (isTooLateFor(n)) {
            return finding(STATE);
        }
        trial.become(present);
        trial.pass(n);
        int many = Math.min(sheets[s].length, trial.seatCount);
        for (int i = 0; i < many; i++) {
            sheets[s].put(i, trial.seats[i].holder);
        }
        return many;
    }

    public int read(int s, int seat) {
        if (!isSheet(s)) {
            return finding(BEYOND);
        }
        if (sheets[s].isMissing()) {
            return finding(MISSING);
        }
        if (!isSeat(seat)) {
            return finding(BEYOND);
        }
        if (isTooLateFor(MOST_NUMBERS)) {
            return finding(STATE);
        }
        trial.become(present);
        for (int i = 0; i < sheets[s].length; i++) {
            if (sheets[s].numbers[i] != trial.seats[seat].holder) {
                return 1 + i;
            }
            trial.pass(1);
        }
        return 0;
    }

    // ---- images

    public int image() {
        kept.become(present);
        isKept = true;
        return 1;
    }

    public int undo() {
        if (!isKept) {
            return finding(NONE);
        }
        present.become(kept);
        return present.oneCount;
    }

    public int tear() {
        int was = isKept ? 1 : 0;
        isKept = false;
        return was;
    }

    public int count(int what) {
        switch (what) {
            case 0: return present.oneCount;
            case 1: return present.seatCount;
            case 2: return tape.length;
            case 3: return present.sitters();
            default: return finding(BEYOND);
        }
    }

    public int status(int which) {
        if (!isFromTo(which, -1, FINDINGS - 1)) {
            return finding(BEYOND);
        }
        if (which >= 0) {
            return found[which];
        }
        int all = 0;
        for (int i = 0; i < FINDINGS; i++) {
            all += found[i];
        }
        return all;
    }

    // ---- helpers of the calls

    private int finding(int which) {
        found[which]++;
        return FIRST_FINDING - which;
    }

    private boolean isSeat(int seat) {
        return isFromTo(seat, 0, present.seatCount - 1);
    }

    private boolean isOne(int one) {
        return isFromTo(one, 0, present.oneCount - 1);
    }

    private boolean isTooLateFor(int n) {
        return present.second > LAST_SECOND - n;
    }

    private boolean isNextInTrialFrom(int one, int spot, int seat) {
        trial.ones[one].spot = spot;
        return trial.nextFor(seat) == one;
    }

    private int worthInTrialFrom(int one, int spot) {
        int worth = 0;
        for (int s = 0; s < trial.seatCount; s++) {
            if (isNextInTrialFrom(one, spot, s)) {
                worth += trial.seats[s].worth;
            }
        }
        return worth;
    }

    private boolean coughInTrial(int seat) {
        boolean isHeard = trial.isHeld(seat);
        trial.makeRise(seat);
        return isHeard;
    }

    private static boolean isFromTo(int v, int least, int most) {
        return v >= least && v <= most;
    }

    private static boolean isSpot(int v) {
        return isFromTo(v, 0, SPOTS - 1);
    }

    private static boolean isKind(int v) {
        return isFromTo(v, 0, KINDS - 1);
    }

    private static boolean isSheet(int v) {
        return isFromTo(v, 0, SHEETS - 1);
    }

    private static int steps(int from, int to) {
        return Math.max(Math.abs(from / ROW - to / ROW), Math.abs(from % ROW - to % ROW));
    }

    /** One of the court. */
    private static final class One {
        int kind;
        int spot;
        int toes;
        int will;
        int coins;
        int seat;
        int sat;

        void arrive(int ofKind, int at, int withToes) {
            kind = ofKind;
            spot = at;
            toes = withToes;
            will = ABSENT;
            coins = 0;
            seat = ABSENT;
            sat = 0;
        }

        void become(One other) {
            kind = other.kind;
            spot = other.spot;
            toes = other.toes;
            will = other.will;
            coins = other.coins;
            seat = other.seat;
            sat = other.sat;
        }

        boolean isOfKind(int wanted) {
            int own = kind;
            for (int i = 0; i < KINDS && own >= 0; i++) {
                if (own == wanted) {
                    return true;
                }
                own = ABOVE[own];
            }
            return false;
        }

        boolean sits() {
            return seat != ABSENT;
        }

        boolean mayTakeSeat() {
            return seat == ABSENT && kind != PAGE;
        }

        int leans() {
            return TIMES_TOES[kind] * toes + MORE_LEANS[kind];
        }

        int stays() {
            return STAYS[kind];
        }

        int goes(int second) {
            switch (kind) {
                case PAGE:
                    return 2;
                case FAT:
                case COOK:
                    return second % 2 == 0 ? 1 : 0;
                case STOOLED:
                case FEIGNER:
                    return second % 3 == 0 ? 0 : 1;
                default:
                    return 1;
            }
        }

        int distance(int to) {
            int rows = spot / ROW - to / ROW;
            int columns = spot % ROW - to % ROW;
            return 100 * (rows * rows + columns * columns) - leans();
        }

        int spotOneStepTowards(int to) {
            int row = spot / ROW;
            int column = spot % ROW;
            return ROW * (row + Integer.compare(to / ROW, row))
                    + column + Integer.compare(to % ROW, column);
        }
    }

    private static final class Seat {
        int spot;
        int worth;
        int holder;

        void become(Seat other) {
            spot = other.spot;
            worth = other.worth;
            holder = other.holder;
        }
    }

    /** All that an image keeps: the seats, the court and the second. */
    private static final class Hall {
        final Seat[] seats;
        final One[] ones;
        int seatCount;
        int oneCount;
        int second;

        Hall() {
            seats = new Seat[MOST_SEATS];
            for (int s = 0; s < MOST_SEATS; s++) {
                seats[s] = new Seat();
            }
            ones = new One[MOST_ONES];
            for (int i = 0; i < MOST_ONES; i++) {
                ones[i] = new One();
            }
        }

        void become(Hall other) {
            seatCount = other.seatCount;
            for (int s = 0; s < seatCount; s++) {
                seats[s].become(other.seats[s]);
            }
            oneCount = other.oneCount;
            for (int i = 0; i < oneCount; i++) {
                ones[i].become(other.ones[i]);
            }
            second = other.second;
        }

        boolean hasAllSeats() {
            return seatCount >= MOST_SEATS;
        }

        boolean hasAllOnes() {
            return oneCount >= MOST_ONES;
        }

        /** Only while there is room for one more. */
        int addSeat(int spot, int worth) {
            Seat added = seats[seatCount];
            added.spot = spot;
            added.worth = worth;
            added.holder = ABSENT;
            return seatCount++;
        }

        /** Only while there is room for one more. */
        int addOne(int kind, int spot, int toes) {
            ones[oneCount].arrive(kind, spot, toes);
            return oneCount++;
        }

        int seatOn(int spot) {
            for (int s = 0; s < seatCount; s++) {
                if (seats[s].spot == spot) {
                    return s;
                }
            }
            return ABSENT;
        }

        boolean isHeld(int seat) {
            return seats[seat].holder != ABSENT;
        }

        int nextFor(int seat) {
            int spot = seats[seat].spot;
            int next = ABSENT;
            int least = 0;
            for (int i = 0; i < oneCount; i++) {
                if (!ones[i].mayTakeSeat()) {
                    continue;
                }
                int far = ones[i].distance(spot);
                if (next == ABSENT || far < least
                        || far == least && ones[i].toes > ones[next].toes) {
                    next = i;
                    least = far;
                }
            }
            return next;
        }

        void fall(int seat, int next) {
            seats[seat].holder = next;
            if (next != ABSENT) {
                ones[next].seat = seat;
                ones[next].spot = seats[seat].spot;
                ones[next].sat = 0;
            }
        }

        void makeRise(int seat) {
            int holder = seats[seat].holder;
            if (holder == ABSENT) {
                return;
            }
            // Asked while the holder still sits, for he is not to be next himself.
            int next = nextFor(seat);
            ones[holder].seat = ABSENT;
            ones[holder].sat = 0;
            fall(seat, next);
        }

        void pass(int n) {
            for (int i = 0; i < n; i++) {
                walkAll();
                changeSeats();
                payAll();
                second++;
            }
        }

        void walkAll() {
            for (int i = 0; i < oneCount; i++) {
                if (!ones[i].sits() && ones[i].will != ABSENT) {
                    walk(ones[i], seats[ones[i].will].spot);
                }
            }
        }

        void walk(One one, int to) {
            int steps = one.goes(second);
            for (int k = 0; k < steps && one.spot != to; k++) {
                int ahead = one.spotOneStepTowards(to);
                // He himself is never on the spot ahead, so a page there is another one.
                if (!isInTheWay(ahead)) {
                    one.spot = ahead;
                }
            }
        }

        boolean isInTheWay(int spot) {
            for (int i = 0; i < oneCount; i++) {
                if (ones[i].spot == spot && ones[i].kind == PAGE && !ones[i].sits()) {
                    return true;
                }
            }
            return false;
        }

        void changeSeats() {
            for (int s = 0; s < seatCount; s++) {
                int holder = seats[s].holder;
                if (holder == ABSENT) {
                    fall(s, nextFor(s));
                } else if (ones[holder].sat >= ones[holder].stays()) {
                    makeRise(s);
                }
            }
        }

        void payAll() {
            for (int i = 0; i < oneCount; i++) {
                if (ones[i].sits()) {
                    ones[i].sat++;
                    ones[i].coins += seats[ones[i].seat].worth;
                }
            }
        }

        int standersOn(int spot) {
            int set = 0;
            for (int i = 0; i < oneCount; i++) {
                if (!ones[i].sits() && ones[i].spot == spot) {
                    set |= 1 << i;
                }
            }
            return set;
        }

        int sitters() {
            int set = 0;
            for (int i = 0; i < oneCount; i++) {
                if (ones[i].sits()) {
                    set |= 1 << i;
                }
            }
            return set;
        }

        int emptySeats() {
            int empty = 0;
            for (int s = 0; s < seatCount; s++) {
                if (!isHeld(s)) {
                    empty++;
                }
            }
            return empty;
        }

        int allCoins() {
            int all = 0;
            for (int i = 0; i < oneCount; i++) {
                all += ones[i].coins;
            }
            return all;
        }

        int richest() {
            int richest = 0;
            for (int i = 1; i < oneCount; i++) {
                if (ones[i].coins > ones[richest].coins) {
                    richest = i;
                }
            }
            return richest;
        }
    }

    /** The bytes that were fed, and the reading of them as the text of a hall. */
    private static final class Tape {
        private static final int END = 0;
        private static final int WORD = 1;
        private static final int NUMBER = 2;
        private static final int SIGN = 3;
        private static final int OTHER = 4;
        private static final int WORTH_UNTOLD = 5;
        private static final int TOES_UNTOLD = 0;
        /** Above all numbers that may stand anywhere; longer ones are not reckoned further. */
        private static final int TOO_GREAT = 10000;

        final int[] bytes = new int[MOST_BYTES];
        int length;
        /** The token that is read: its sort, its first byte, the byte behind it, its number. */
        int token;
        int start;
        int end;
        int number;

        void append(int b) {
            if (length < MOST_BYTES) {
                bytes[length] = b;
                length++;
            }
        }

        /** How many items came into the hall, or -1 less the place of the fault. */
        int enterInto(Hall hall) {
            end = 0;
            advance();
            for (int items = 1; items <= MOST_BYTES; items++) {
                boolean isEntered = isWord("seat") ? enterSeat(hall)
                        : isWord("cough") ? enterCough(hall) : enterOne(hall);
                if (isEntered && token == END) {
                    return items;
                }
                if (!isEntered || token != SIGN) {
                    return -1 - start;
                }
                advance();
            }
            return -1 - start;
        }

        private boolean enterSeat(Hall hall) {
            if (hall.hasAllSeats()) {
                return false;
            }
            advance();
            if (!isNumberBelow(SPOTS) || hall.seatOn(number) != ABSENT) {
                return false;
            }
            int spot = number;
            int worth = WORTH_UNTOLD;
            advance();
            if (isWord("worth")) {
                advance();
                if (!isNumberBelow(MOST_WORTH + 1)) {
                    return false;
                }
                worth = number;
                advance();
            }
            hall.addSeat(spot, worth);
            return true;
        }

        private boolean enterCough(Hall hall) {
            advance();
            if (!isNumberBelow(hall.seatCount) || !hall.isHeld(number)) {
                return false;
            }
            hall.makeRise(number);
            advance();
            return true;
        }

        private boolean enterOne(Hall hall) {
            int kind = kindNamed();
            if (kind == ABSENT || hall.hasAllOnes()) {
                return false;
            }
            advance();
            if (!isNumberBelow(SPOTS)) {
                return false;
            }
            int spot = number;
            int toes = TOES_UNTOLD;
            advance();
            if (isWord("toes")) {
                advance();
                if (!isNumberBelow(MOST_TOES + 1)) {
                    return false;
                }
                toes = number;
                advance();
            }
            int one = hall.addOne(kind, spot, toes);
            return !isWord("wants") || enterWish(hall, one);
        }

        private boolean enterWish(Hall hall, int one) {
            advance();
            if (!isNumberBelow(hall.seatCount)) {
                return false;
            }
            hall.ones[one].will = number;
            advance();
            return true;
        }

        private int kindNamed() {
            for (int kind = 0; kind < KINDS; kind++) {
                if (isWord(nameOf(kind))) {
                    return kind;
                }
            }
            return ABSENT;
        }

        private static String nameOf(int kind) {
            switch (kind) {
                case FAT: return "fat";
                case PAGE: return "page";
                case STOOLED: return "stooled";
                case FEIGNER: return "feigner";
                case COOK: return "cook";
                default: return "courtier";
            }
        }

        private boolean isNumberBelow(int limit) {
            return token == NUMBER && number < limit;
        }

        private boolean isWord(String word) {
            if (token != WORD || end - start != word.length()) {
                return false;
            }
            for (int i = 0; i < word.length(); i++) {
                if (bytes[start + i] != word.charAt(i)) {
                    return false;
                }
            }
            return true;
        }

        private void advance() {
            while (end < length && bytes[end] == ' ') {
                end++;
            }
            start = end;
            if (start >= length) {
                token = END;
            } else if (isLetter(bytes[start])) {
                token = WORD;
                readWord();
            } else if (isDigit(bytes[start])) {
                token = NUMBER;
                readNumber();
            } else {
                token = bytes[start] == ';' ? SIGN : OTHER;
                end = start + 1;
            }
        }

        private void readWord() {
            while (end < length && isLetter(bytes[end])) {
                end++;
            }
        }

        private void readNumber() {
            number = 0;
            while (end < length && isDigit(bytes[end])) {
                number = Math.min(10 * number + bytes[end] - '0', TOO_GREAT);
                end++;
            }
        }

        private static boolean isLetter(int b) {
            return b >= 'a' && b <= 'z';
        }

        private static boolean isDigit(int b) {
            return b >= '0' && b <= '9';
        }
    }

    /** A row of numbers; of 0 bits it is missing. */
    private static final class Sheet {
        final long[] numbers = new long[MOST_NUMBERS];
        int bits;
        int length;

        boolean isMissing() {
            return bits == 0;
        }

        void layOut(int ofBits, int n) {
            bits = ofBits;
            length = ofBits == 0 ? 0 : n;
            for (int i = 0; i < MOST_NUMBERS; i++) {
                numbers[i] = 0;
            }
        }

        void put(int i, long v) {
            switch (bits) {
                case 8:
                    numbers[i] = (byte) v;
                    break;
                case 16:
                    numbers[i] = (short) v;
                    break;
                default:
                    numbers[i] = v;
                    break;
            }
        }

        boolean hasPart(int from, int n) {
            return from >= 0 && n >= 0 && from <= length - n;
        }
    }
}
