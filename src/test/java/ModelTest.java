import java.lang.reflect.Method;
import java.util.HashMap;
import java.util.Map;
import java.util.Random;

/** Runs of 512 calls, drawn by fixed seeds, whose every answer must be the model's. */
public final class ModelTest {
    private static final int RUNS = 400;
    private static final int CALLS = 512;

    /** The call, how often it is drawn, and what its arguments are. */
    private static final String[][] CALLS_DRAWN = {
        {"seat", "6", "spot hundred"}, {"seatOf", "6", "seat what4"}, {"worth", "3", "seat hundred"},
        {"comes", "8", "kind spot toes"}, {"of", "8", "one what10"}, {"set", "12", "one what14 value"},
        {"turn", "4", "one kind"}, {"as", "4", "one kind"}, {"far", "3", "one spot"}, {"on", "3", "spot"},
        {"cough", "6", "seat"}, {"seconds", "10", "few"}, {"now", "3", "what4"},
        {"holder", "4", "seat n200"}, {"where", "4", "one n200"}, {"coins", "4", "one n200"},
        {"gets", "3", "one seat"}, {"rich", "3", "n200"}, {"spots", "3", "one seat"},
        {"nearest", "3", "one seat"}, {"place", "3", "one spot"}, {"best", "2", "one"},
        {"coughFor", "5", "one"}, {"twice", "5", "one seat"}, {"will", "4", "one n100"},
        {"kind", "4", "one n100"}, {"guard", "2", "one seat"}, {"feed", "1", "any bytes"},
        {"wipe", "1", ""}, {"hall", "1", ""}, {"sheet", "3", "sheet bits n40"},
        {"write", "6", "sheet n40 long"}, {"copy", "4", "sheet n8 sheet n8 n8"}, {"lays", "3", "sheet"},
        {"roll", "4", "sheet n200"}, {"read", "4", "sheet seat"}, {"image", "1", ""}, {"undo", "1", ""},
        {"tear", "1", ""}, {"count", "3", "what4"}, {"status", "4", "which"}, {"TEXT", "6", ""},
    };
    private static final String[] TOKENS = {
        "seat", "courtier", "fat", "page", "stooled", "feigner", "cook", "cough", "worth", "toes",
        "wants", ";", "0", "1", "5", "12", "50", "99", "100", "9999", "10000", "007", "x", "!", "seats",
    };

    private final Random random;
    private final ChairDance x = new ChairDance();
    private final Model model = new Model();
    private final StringBuilder told = new StringBuilder();
    private int calls = 0;
    private int wrong = 0;

    private ModelTest(long seed) {
        random = new Random(seed);
    }

    public static void main(String[] args) throws ReflectiveOperationException {
        Map<String, Method> ours = byName(ChairDance.class);
        Map<String, Method> theirs = byName(Model.class);
        for (int seed = 0; seed < RUNS; seed++) {
            ModelTest run = new ModelTest(seed);
            run.play(ours, theirs, seed);
            if (run.wrong != 0) {
                System.out.println("seed " + seed + ": " + run.told);
                System.exit(1);
            }
        }
        System.out.println("all answers are as the model's");
    }

    private static Map<String, Method> byName(Class<?> c) {
        Map<String, Method> methods = new HashMap<>();
        for (Method m : c.getDeclaredMethods()) {
            if (java.lang.reflect.Modifier.isPublic(m.getModifiers())) {
                m.setAccessible(true);
                methods.put(m.getName(), m);
            }
        }
        return methods;
    }

    private void play(Map<String, Method> ours, Map<String, Method> theirs, int seed)
            throws ReflectiveOperationException {
        boolean isLate = seed % 8 == 0;
        while (isLate && calls < 49) {
            call(ours.get("seconds"), theirs.get("seconds"), new Object[] {200});
        }
        int all = 0;
        for (String[] c : CALLS_DRAWN) {
            all += Integer.parseInt(c[1]);
        }
        while (calls < CALLS && wrong == 0) {
            String[] drawn = drawCall(all);
            if (drawn[0].equals("TEXT")) {
                text(ours, theirs);
                continue;
            }
            String[] kinds = drawn[2].isEmpty() ? new String[0] : drawn[2].split(" ");
            Object[] args = new Object[kinds.length];
            for (int i = 0; i < kinds.length; i++) {
                args[i] = drawArgument(kinds[i]);
            }
            call(ours.get(drawn[0]), theirs.get(drawn[0]), args);
        }
    }

    private String[] drawCall(int all) {
        int at = random.nextInt(all);
        for (String[] c : CALLS_DRAWN) {
            at -= Integer.parseInt(c[1]);
            if (at < 0) {
                return c;
            }
        }
        return CALLS_DRAWN[0];
    }

    /** None behind the 512th, of which the document promises nothing. */
    private void call(Method our, Method their, Object[] args) throws ReflectiveOperationException {
        if (calls == CALLS) {
            return;
        }
        calls++;
        long got = ((Number) our.invoke(x, args)).longValue();
        long want = ((Number) their.invoke(model, args)).longValue();
        told.append(our.getName()).append(java.util.Arrays.toString(args)).append(" = ").append(got).append("; ");
        if (got != want) {
            told.append("due is ").append(want);
            wrong++;
        }
    }

    private Object drawArgument(String kind) {
        if (kind.equals("long")) {
            return random.nextInt(3) == 0 ? random.nextLong() : (long) random.nextInt(8) - 2;
        }
        int[] odd = {-1, -2, 100, 99, 200, 201, 9999, Integer.MIN_VALUE, Integer.MAX_VALUE};
        if (random.nextInt(25) == 0) {
            return odd[random.nextInt(odd.length)];
        }
        return switch (kind) {
            // Few spots and few toes, so that many are as far from a seat.
            case "spot" -> random.nextInt(4) == 0 ? random.nextInt(100)
                    : 10 * random.nextInt(5) + random.nextInt(5);
            case "toes" -> random.nextInt(3) == 0 ? random.nextInt(100) : 50 * random.nextInt(2);
            case "hundred" -> random.nextInt(100);
            case "value" -> random.nextInt(2) == 0 ? random.nextInt(8) - 1 : random.nextInt(100);
            case "seat" -> random.nextInt(Math.max(1, model.count(1)) + (random.nextInt(9) == 0 ? 1 : 0));
            case "one" -> random.nextInt(Math.max(1, model.count(0)) + (random.nextInt(9) == 0 ? 1 : 0));
            case "kind" -> random.nextInt(random.nextInt(9) == 0 ? 7 : 6);
            case "what4" -> random.nextInt(5);
            case "what10" -> random.nextInt(11);
            case "what14" -> 1 + random.nextInt(random.nextInt(9) == 0 ? 4 : 3);
            case "few" -> random.nextInt(4) == 0 ? random.nextInt(202) : 1 + random.nextInt(6);
            case "n200" -> random.nextInt(2) == 0 ? random.nextInt(202) : random.nextInt(20);
            case "n100" -> random.nextInt(102);
            case "n40" -> random.nextInt(2) == 0 ? random.nextInt(43) - 1 : random.nextInt(8);
            case "n8" -> random.nextInt(5) == 0 ? random.nextInt(43) - 1 : random.nextInt(4);
            case "bytes" -> random.nextInt(6);
            case "bits" -> new int[] {0, 8, 8, 16, 16, 64, 64, 32}[random.nextInt(8)];
            case "sheet" -> random.nextInt(12) == 0 ? 4 : random.nextInt(4);
            case "which" -> random.nextInt(10) - 2;
            default -> random.nextInt();
        };
    }

    /** Feeds a text, mostly one that could stand, in pieces of 1 to 4 bytes; then it is read. */
    private void text(Map<String, Method> ours, Map<String, Method> theirs)
            throws ReflectiveOperationException {
        StringBuilder all = new StringBuilder();
        int items = 1 + random.nextInt(4);
        for (int i = 0; i < items; i++) {
            all.append(i == 0 ? "" : ";").append(item());
        }
        if (random.nextInt(3) == 0) {
            int place = random.nextInt(all.length() + 1);
            all.insert(place, " " + TOKENS[random.nextInt(TOKENS.length)] + " ");
        }
        if (random.nextInt(6) == 0) {
            all.setLength(random.nextInt(all.length() + 1));
        }
        int at = 0;
        while (at < all.length()) {
            int n = Math.min(all.length() - at, 1 + random.nextInt(4));
            int bytes = random.nextInt();
            for (int k = 0; k < n; k++) {
                bytes = bytes << 8 | all.charAt(at + k);
            }
            call(ours.get("feed"), theirs.get("feed"), new Object[] {bytes, n});
            at += n;
        }
        call(ours.get("hall"), theirs.get("hall"), new Object[0]);
    }

    private String item() {
        String blank = random.nextInt(3) == 0 ? "" : " ";
        int what = random.nextInt(4);
        if (what == 0) {
            return "cough" + blank + random.nextInt(Math.max(1, model.count(1)));
        }
        if (what == 1) {
            return "seat" + blank + random.nextInt(102)
                    + (random.nextBoolean() ? blank + "worth" + blank + random.nextInt(102) : "");
        }
        return TOKENS[1 + random.nextInt(6)] + blank + random.nextInt(102)
                + (random.nextBoolean() ? blank + "toes" + blank + random.nextInt(102) : "")
                + (random.nextBoolean() ? blank + "wants" + blank + random.nextInt(4) : "");
    }
}
