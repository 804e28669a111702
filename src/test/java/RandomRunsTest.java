import java.lang.reflect.Method;
import java.util.LinkedHashMap;
import java.util.Map;
import java.util.Random;

/**
 * Runs of 512 calls, drawn by fixed seeds: every answer of HogMortgage must be the one of Model. Each run has its own liking:
 * which calls it draws more often, how often a number is odd; some begin shortly ahead of night 9999, or with sheets that are
 * mostly alike, or with a tape that is nearly full.
 */
public final class RandomRunsTest {
    private static final int MOST_CALLS = 512;
    private static final int[] LIKINGS = {0, 1, 1, 2, 5};
    private static final int[] ODD = {Integer.MIN_VALUE, Integer.MIN_VALUE + 1, -21, -1, 0, 1, 24, 255, Integer.MAX_VALUE - 23,
        Integer.MAX_VALUE - 1, Integer.MAX_VALUE};

    /** Each call, how often it is drawn, and what its numbers are: low and high of each one. */
    private static final String[] CALLS = {
        "house 3 0:9999 0:20", "hog 4 0:4 1:9 H", "interest 2 0:20", "of 6 H 0:4", "at 5 G 0:3", "count 6 0:8",
        "nights 6 1:40", "put 5 H 0:20", "pay 4 H 1:9999", "drive 5 G H", "forgive 4 H", "drift 4 1:40", "undo 5",
        "seed 1 0:2147483647", "ahead 4 H 0:60 0:1", "where 3 G 0:60", "then 3 0:60 0:1", "lost 3 H", "free 3 H",
        "keep 3 H 1:40", "part 1 0:12 1:30 -2:6", "drives 3 H 1:40 0:1", "visits 3 1:40 0:1", "solvent 3 H 1:40",
        "sleep 3 H 0:10 0:1", "image 1", "restore 1", "dawns 6 G H 0:3 0:3 0:23 1:8 0:1", "film 3 H 1:24 0:3 0:3 0:23",
        "sheet 3 0:3 0:3 0:24", "drop 1 0:3", "item 6 0:3 0:3 0:23 -3:20", "copy 4 0:3 0:23 0:3 0:23 0:24", "read 1",
        "type 1 32:126",
    };
    private static final Map<String, Method[]> METHODS = new LinkedHashMap<>();

    private final Random random;
    private final HogMortgage real = new HogMortgage();
    private final Model model = new Model();
    private final int run;
    private int calls = 0;
    private boolean wrong = false;
    private final StringBuilder story = new StringBuilder();
    private final int[] lanes = new int[4];
    private final int[] weights = new int[CALLS.length];
    private final int oddOf;

    private RandomRunsTest(int run) {
        this.run = run;
        this.random = new Random(run);
        for (int k = 0; k < CALLS.length; k++) {
            int liked = run % 2 == 0 ? 1 : LIKINGS[random.nextInt(LIKINGS.length)];
            weights[k] = liked * Integer.parseInt(CALLS[k].split(" ")[1]);
        }
        oddOf = random.nextInt(8) == 0 ? 12 : 100;
    }

    public static void main(String[] args) throws ReflectiveOperationException {
        for (Method m : HogMortgage.class.getDeclaredMethods()) {
            if (java.lang.reflect.Modifier.isPublic(m.getModifiers())) {
                METHODS.put(m.getName(), new Method[] {m, Model.class.getDeclaredMethod(m.getName(), m.getParameterTypes())});
            }
        }
        int runs = args.length > 0 ? Integer.parseInt(args[0]) : 400;
        int wrong = 0;
        long calls = 0;
        for (int r = 1; r <= runs && wrong < 5; r++) {
            RandomRunsTest test = new RandomRunsTest(r);
            test.go();
            wrong += test.wrong ? 1 : 0;
            calls += test.calls;
        }
        System.out.println(runs + " runs, " + calls + " calls, " + wrong + " runs with a wrong answer");
        if (wrong != 0) {
            System.exit(1);
        }
    }

    private void go() throws ReflectiveOperationException {
        if (random.nextInt(4) > 0) {
            tell(random.nextInt(5) == 0);
        }
        if (run % 8 == 0) {
            growLate();
        }
        if (run % 8 < 4) {
            fillSheets();
        }
        if (run % 8 == 7) {
            fillTape();
        }
        while (goesOn()) {
            if (random.nextInt(60) == 0) {
                tell(random.nextInt(2) == 0);
            } else {
                drawn(CALLS[likedCall()].split(" "));
            }
        }
    }

    private boolean goesOn() {
        return calls < MOST_CALLS && !wrong;
    }

    private void growLate() throws ReflectiveOperationException {
        for (int k = 0; k < 245 + random.nextInt(5) && goesOn(); k++) {
            call(random.nextInt(9) == 0 ? "drift" : "nights", 40);
        }
        call("image");
    }

    private void fillSheets() throws ReflectiveOperationException {
        int lane = random.nextInt(4);
        for (int k = 0; k < 4; k++) {
            lanes[k] = random.nextInt(4) == 0 ? random.nextInt(4) : lane;
            call("sheet", k, lanes[k], 18 + random.nextInt(7));
            for (int i = 0; i < 6; i++) {
                call("item", k, lanes[k], i, (long) random.nextInt(12));
            }
        }
    }

    private void fillTape() throws ReflectiveOperationException {
        for (int k = 0; k < 74 + random.nextInt(10); k++) {
            call("type", (int) ' ');
        }
    }

    private int likedCall() {
        int all = 1;
        for (int weight : weights) {
            all += weight;
        }
        int drawn = random.nextInt(all);
        for (int k = 0; k < weights.length; k++) {
            drawn -= weights[k];
            if (drawn < 0) {
                return k;
            }
        }
        return 0;
    }

    private void drawn(String[] spec) throws ReflectiveOperationException {
        String name = spec[0];
        Class<?>[] types = METHODS.get(name)[0].getParameterTypes();
        Object[] numbers = new Object[types.length];
        for (int k = 0; k < types.length; k++) {
            long v = number(spec[k + 2]);
            numbers[k] = types[k] == long.class ? (Object) v : (Object) (int) v;
        }
        guessDawns(name, numbers);
        if (name.equals("pay") && random.nextInt(2) == 0) {
            numbers[1] = 1 + random.nextInt(60);
        }
        if (name.equals("house") && random.nextInt(2) == 0) {
            numbers[0] = random.nextInt(150);
        }
        if (name.equals("nights") && random.nextInt(3) > 0) {
            numbers[0] = 1 + random.nextInt(4);
        }
        // The model tries every parting by new objects: mostly few of them.
        if (name.equals("part") && model.count(0) > 3 && random.nextInt(20) > 0) {
            numbers[0] = random.nextInt(6) - 1;
        }
        if (name.equals("sheet") && random.nextInt(2) == 0) {
            numbers[2] = 20 + random.nextInt(5);
        }
        call(name, numbers);
        if (name.equals("sheet") && (Integer) numbers[0] >= 0 && (Integer) numbers[0] < 4) {
            lanes[(Integer) numbers[0]] = (Integer) numbers[1];
        }
    }

    /** Mostly the lane that the sheet has, so that not all are CAST. */
    private void guessDawns(String name, Object[] numbers) {
        int sheetAt = name.equals("dawns") || name.equals("film") ? 2 : name.equals("item") ? 0 : -1;
        if (sheetAt < 0) {
            return;
        }
        int sheet = (Integer) numbers[sheetAt];
        if (sheet >= 0 && sheet < 4 && random.nextInt(8) > 0) {
            numbers[sheetAt + 1] = lanes[sheet];
        }
        if (random.nextInt(3) > 0) {
            numbers[name.equals("dawns") ? 4 : name.equals("film") ? 4 : 2] = random.nextInt(6);
        }
        if (name.equals("dawns") && random.nextInt(2) == 0) {
            numbers[5] = 1 + random.nextInt(2);
        }
    }

    private long number(String range) {
        int low = 0;
        int high = Math.max(0, model.count(range.equals("H") ? 0 : 1) - 1);
        if (range.contains(":")) {
            low = Integer.parseInt(range.substring(0, range.indexOf(':')));
            high = Integer.parseInt(range.substring(range.indexOf(':') + 1));
        }
        int odd = random.nextInt(oddOf);
        if (odd == 0) {
            return random.nextBoolean() ? random.nextInt() : ODD[random.nextInt(ODD.length)];
        }
        if (odd < 3) {
            return random.nextBoolean() ? low - 1 : high + 1;
        }
        if (odd < 9) {
            return random.nextBoolean() ? low : high;
        }
        return low + (long) (random.nextDouble() * ((long) high - low + 1));
    }

    private void call(String name, Object... numbers) throws ReflectiveOperationException {
        if (!goesOn()) {
            return;
        }
        calls++;
        Method[] m = METHODS.get(name);
        int got = (Integer) m[0].invoke(real, numbers);
        int want = (Integer) m[1].invoke(model, numbers);
        story.append(name).append(java.util.Arrays.toString(numbers)).append(' ').append(got).append('\n');
        if (got != want) {
            wrong = true;
            System.out.println(story);
            System.out.println("run " + run + ": due is " + want);
        }
    }

    /** A lane as a text, perhaps with a fault; what is on the tape yet stays ahead of it. */
    private void tell(boolean faulty) throws ReflectiveOperationException {
        String text = lane();
        if (faulty) {
            int p = random.nextInt(text.length() + 1);
            String odd = "" + "0123456789;;,,..!!@@pgsfyx  ".charAt(random.nextInt(28));
            text = text.substring(0, p) + odd + text.substring(random.nextBoolean() ? p : Math.min(text.length(), p + 1));
        }
        if (random.nextInt(4) > 0) {
            call("read");
        }
        for (int k = 0; k < text.length(); k++) {
            call("type", (int) text.charAt(k));
        }
        call("read");
    }

    private String lane() {
        StringBuilder s = new StringBuilder();
        s.append(random.nextInt(21)).append(blank()).append(';');
        int houses = 1 + random.nextInt(6);
        for (int h = 0; h < houses; h++) {
            s.append(h > 0 ? "," : "").append(blank()).append(random.nextInt(random.nextBoolean() ? 100 : 9));
            s.append('.').append(blank()).append(random.nextInt(21));
            s.append(random.nextInt(3) > 0 ? "" : "!!!".substring(random.nextInt(3))).append(blank());
        }
        int hogs = random.nextInt(6);
        for (int g = 0; g < hogs; g++) {
            s.append(g > 0 ? "," : ";").append(blank()).append("pgsfy".charAt(random.nextInt(5)));
            s.append(1 + random.nextInt(9)).append(blank());
            if (random.nextInt(3) > 0) {
                s.append('@').append(random.nextInt(houses));
            }
        }
        return s.toString();
    }

    private String blank() {
        return random.nextInt(12) == 0 ? " " : "";
    }
}
