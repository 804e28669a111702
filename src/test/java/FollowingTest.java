import java.lang.reflect.Method;
import java.lang.reflect.Modifier;
import java.util.ArrayList;
import java.util.Arrays;
import java.util.HashMap;
import java.util.List;
import java.util.Map;

/**
 * Calls that follow each other: each of a list of calls (all promises; such as are taken and such as are refused) behind each
 * other one, and each three that change something, on several objects. Behind them all that other calls show is asked:
 * houses, hogs, all that may be undone, the image, the tape, the sheets. HogMortgage must answer as Model does.
 */
public final class FollowingTest {
    private static final int MOST_CALLS = 512;

    /** Objects to begin with: nobody; something of everything; a lost house in winter, and no image. */
    private static final String[][] STARTS = {
        {},
        {"write 7;40.6,90.3!,5.12;p4,s3@2", "read", "put 0 8", "image", "nights 2", "pay 1 10", "drive 0 0", "forgive 1",
            "drift 1", "interest 9", "write 4;1", "sheet 0 0 3", "item 0 0 0 7", "item 0 0 2 9", "sheet 1 2 2", "item 1 2 1 20",
            "sheet 2 3 0"},
        {"write 20;1.2,99.0!!,30.9!!!;g9,y7@1,f2@1,s5@2,p1@2", "read", "nights 15", "seed 99", "sheet 3 1 24", "film 1 24 3 1 0"},
    };

    private static final String[] CHANGING = {
        "house 70 4", "hog 3 2 0", "interest 20", "write 3;8.9,7.1!!;f4@1", "write ;y8", "read", "nights 1", "nights 6", "put 0 11",
        "pay 1 60", "drive 0 1", "forgive 1", "drift 3", "undo", "seed 5", "image", "restore", "film 0 2 0 0 1", "sheet 0 0 3",
        "sheet 1 1 5", "drop 0", "item 0 0 1 300", "copy 0 0 0 1 2",
    };

    private static final String[] OTHERS = {
        "house 10000 4", "hog 5 2 0", "hog 0 1 7", "interest 21", "of 1 4", "of 0 0", "at 0 2", "at 9 0", "write ~", "type 127",
        "count 8", "count 9", "nights 41", "nights 40", "put 0 21", "put 2 5", "pay 0 0", "pay 0 9999", "drive 1 0", "drive 9 0",
        "forgive 9", "drift 0", "drift 40", "seed -1", "ahead 0 60 0", "ahead 0 61 0", "where 0 9", "where 0 -1", "then 60 0",
        "then 5 2", "lost 0", "free 1", "keep 1 40", "keep 0 0", "part 4 9 0", "part 3 5 -2", "part 0 1 -3", "drives 1 12 0",
        "drives 0 0 0", "visits 40 1", "visits 3 2", "solvent 0 9", "solvent 0 41", "sleep 1 4 0", "sleep 0 11 0",
        "dawns 0 0 0 0 0 2 0", "dawns 0 1 3 1 4 8 1", "dawns 0 0 0 1 0 1 0", "dawns 0 0 0 0 2 2 0", "film 0 25 0 0 0",
        "film 1 3 1 2 0", "film 0 9 0 0 0", "sheet 0 0 25", "sheet 0 0 -1", "sheet 3 3 24", "drop 3", "drop 4", "item 0 0 3 1",
        "item 0 1 0 1", "item 1 2 0 -1", "copy 0 0 1 0 1", "copy 3 0 3 4 20", "copy 0 -1 0 0 1", "copy 3 0 0 0 -1",
    };

    private static final Map<String, Method[]> METHODS = new HashMap<>();
    private static int wrong = 0;
    private static int runs = 0;
    private static long calls = 0;

    private final HogMortgage real = new HogMortgage();
    private final Model model = new Model();
    private final StringBuilder story = new StringBuilder();
    private int made = 0;
    private boolean bad = false;

    public static void main(String[] args) throws ReflectiveOperationException {
        for (Method m : HogMortgage.class.getDeclaredMethods()) {
            if (Modifier.isPublic(m.getModifiers())) {
                METHODS.put(m.getName(), new Method[] {m, Model.class.getDeclaredMethod(m.getName(), m.getParameterTypes())});
            }
        }
        List<String> all = new ArrayList<>(Arrays.asList(CHANGING));
        all.addAll(Arrays.asList(OTHERS));
        for (String[] start : STARTS) {
            for (String first : all) {
                for (String second : all) {
                    new FollowingTest().go(start, first, second);
                }
            }
        }
        for (String first : CHANGING) {
            for (String second : CHANGING) {
                for (String third : CHANGING) {
                    new FollowingTest().go(STARTS[1], first, second, third);
                }
            }
        }
        System.out.println(runs + " runs, " + calls + " calls, " + wrong + " runs with a wrong answer");
        if (wrong != 0) {
            System.exit(1);
        }
    }

    private void go(String[] start, String... following) throws ReflectiveOperationException {
        if (wrong >= 5) {
            return;
        }
        for (String row : start) {
            told(row);
        }
        for (String row : following) {
            told(row);
        }
        lane();
        past();
        call("restore");
        lane();
        past();
        call("type", ' ');
        call("read");
        lane();
        sheets();
        runs++;
        calls += made;
        wrong += bad ? 1 : 0;
    }

    private void told(String row) throws ReflectiveOperationException {
        if (row.startsWith("write ")) {
            for (char letter : row.substring(6).toCharArray()) {
                call("type", letter);
            }
            return;
        }
        String[] parts = row.split(" ");
        long[] numbers = new long[parts.length - 1];
        for (int k = 0; k < numbers.length; k++) {
            numbers[k] = Long.parseLong(parts[k + 1]);
        }
        call(parts[0], numbers);
    }

    private void lane() throws ReflectiveOperationException {
        for (int what = 0; what < 9; what++) {
            call("count", what);
        }
        int houses = call("count", 0);
        for (int h = 0; h < houses; h++) {
            for (int what = 0; what < 3; what++) {
                call("of", h, what);
            }
        }
        int hogs = call("count", 1);
        for (int g = 0; g < hogs; g++) {
            for (int what = 0; what < 3; what++) {
                call("at", g, what);
            }
        }
    }

    private void past() throws ReflectiveOperationException {
        for (int k = 0; k < 9 && call("undo") >= 0; k++) {
            call("count", 2);
            call("count", 4);
            call("seed", call("seed", 0));
            call("count", 6);
            int houses = call("count", 0);
            for (int h = 0; h < houses && h < 3; h++) {
                call("of", h, 1);
                call("of", h, 2);
                call("of", h, 4);
            }
        }
    }

    /** What is in the sheets, as a hog that leaves 20 less its hunger shows it. */
    private void sheets() throws ReflectiveOperationException {
        for (char letter : "0;0.20;p1".toCharArray()) {
            call("type", letter);
        }
        call("read");
        for (int sheet = 0; sheet < 4; sheet++) {
            int lane = 0;
            while (lane < 3 && call("dawns", 0, 0, sheet, lane, 0, 1, 1) == HogMortgage.CAST) {
                lane++;
            }
            for (int i = 0; i < 4; i++) {
                call("dawns", 0, 0, sheet, lane, i, 1, 1);
                call("put", 0, 11);
                call("dawns", 0, 0, sheet, lane, i, 1, 1);
                call("put", 0, 20);
            }
            call("drop", sheet);
        }
    }

    private int call(String name, long... numbers) throws ReflectiveOperationException {
        made++;
        if (made > MOST_CALLS) {
            throw new IllegalStateException("more than 512 calls: " + story);
        }
        Method[] m = METHODS.get(name);
        Object[] given = new Object[numbers.length];
        for (int k = 0; k < numbers.length; k++) {
            given[k] = m[0].getParameterTypes()[k] == long.class ? (Object) numbers[k] : (Object) (int) numbers[k];
        }
        int got = (Integer) m[0].invoke(real, given);
        int want = (Integer) m[1].invoke(model, given);
        if (!bad) {
            story.append(name).append(Arrays.toString(given)).append(' ').append(got).append('\n');
        }
        if (got != want && !bad) {
            bad = true;
            System.out.println(story + "due is " + want);
        }
        return got;
    }
}
