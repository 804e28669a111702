import java.lang.reflect.InvocationTargetException;
import java.lang.reflect.Method;
import java.lang.reflect.Modifier;
import java.util.ArrayList;
import java.util.Arrays;
import java.util.HashMap;
import java.util.List;
import java.util.Map;
import java.util.Set;
import java.util.TreeMap;

/**
 * Runs of calls on a new object, told as rows with the answer that is due:
 *
 * <pre>
 *   house(9999, 20) = 1      a call; least and most are the ends of int, 'x' is a letter
 *   write [5;9] = 3          types the letters; the last answer
 *   tell [5;9.3] = 1         types the letters and reads them
 *   39 times nights(40) = 0  the same call again and again
 *   sheets [0: 7 ? | - | -]  what the sheets hold: lane and items (another one than 0 to 20 is ?), - is nothing
 * </pre>
 *
 * A row whose answer is below 0 is a refused call, and some calls only ask. Each such row is held against the same run
 * without it: all that other calls show (houses, hogs, all that may be undone, the image, the tape, the sheets) must be
 * the same.
 */
final class Story {
    private static final int MOST_CALLS = 512;
    private static final Map<String, Method> FACE = new HashMap<>();
    private static final Set<String> ASKING = Set.of("of", "at", "count", "ahead", "where", "then", "lost", "free", "keep",
            "part", "drives", "visits", "solvent", "sleep", "dawns");
    private static final Check check = new Check();
    private static String test = "";

    /** A lane with two hogs, seven things to be undone, an image of another moment, letters on the tape, three sheets. */
    private static final String[] RICH = {
        "tell [7;40.6,90.3!,5.12;p4,s3@2] = 3",
        "put(0, 8) = 6",
        "image() = 1",
        "nights(2) = 0",
        "pay(1, 10) = 1017",
        "drive(0, 0) = 2",
        "forgive(1) = 2",
        "drift(1) = 0",
        "interest(9) = 7",
        "write [4;1] = 3",
        "sheet(0, 0, 3) = 3",
        "item(0, 0, 0, 7) = 1",
        "item(0, 0, 2, 9) = 1",
        "sheet(1, 2, 2) = 2",
        "item(1, 2, 1, 20) = 1",
        "sheet(2, 3, 0) = 0",
    };

    static {
        for (Method m : HogMortgage.class.getDeclaredMethods()) {
            if (Modifier.isPublic(m.getModifiers())) {
                FACE.put(m.getName(), m);
            }
        }
    }

    private Story() {
    }

    /** Runs every test of a class, each named promise, its number and what it shows, or run; each promise must have one. */
    static void runAll(Class<?> tests, int... promises) throws IllegalAccessException {
        Map<String, Method> named = new TreeMap<>();
        for (Method m : tests.getDeclaredMethods()) {
            if (m.getName().matches("(promise[0-9]+|run)[A-Z].*")) {
                m.setAccessible(true);
                named.put(String.format("%2d%s", promiseOf(m.getName()), m.getName()), m);
            }
        }
        for (int p : promises) {
            check.due("tests of promise " + p, named.values().stream().anyMatch(m -> promiseOf(m.getName()) == p) ? 1 : 0, 1);
        }
        for (Method m : named.values()) {
            test = m.getName();
            try {
                m.invoke(null);
            } catch (InvocationTargetException e) {
                check.same(test, "" + e.getCause(), "no exception");
            }
        }
        System.out.print(named.size() + " tests, ");
        check.end();
    }

    private static int promiseOf(String name) {
        return name.startsWith("run") ? 0 : Integer.parseInt(name.replaceAll("promise([0-9]+).*", "$1"));
    }

    /** A run on a new object. */
    static void due(String... rows) {
        List<Row> story = new ArrayList<>();
        for (String r : rows) {
            story.add(new Row(r));
        }
        Told x = new Told();
        for (int k = 0; k < story.size(); k++) {
            Row row = story.get(k);
            if (row.shows()) {
                check.same(test + ": sheets", replayed(story, k).sheets(), row.letters);
                continue;
            }
            int got = 0;
            for (int t = 0; t < row.times; t++) {
                got = row.tell(x);
                check.due(test + ": " + row.text, got, row.due);
            }
            if ((row.due < 0 || row.asks()) && got == row.due) {
                changesNothing(story, k);
            }
        }
    }

    /** A run on an object with something of everything. */
    static void rich(String... rows) {
        List<String> all = new ArrayList<>(Arrays.asList(RICH));
        all.addAll(Arrays.asList(rows));
        due(all.toArray(new String[0]));
    }

    /** Rows that each tell a text to a new object, and to one with something of everything. */
    static void texts(String... rows) {
        for (String row : rows) {
            due(row);
            rich("read() = -23", row);
        }
    }

    private static void changesNothing(List<Row> story, int k) {
        for (Probe probe : Probe.values()) {
            String with = probe.shown(replayed(story, k + 1));
            String without = probe.shown(replayed(story, k));
            if (probe == Probe.TAPE && story.get(k).reads()) {
                // Refused or not, the tape is empty then.
                with = with.substring(0, with.indexOf(' '));
                without = "1";
            }
            check.same(test + ": " + story.get(k).text + " changes nothing, " + probe, with, without);
        }
    }

    private static Told replayed(List<Row> story, int rows) {
        Told x = new Told();
        for (Row row : story.subList(0, rows)) {
            for (int t = 0; t < row.times && !row.shows(); t++) {
                row.tell(x);
            }
        }
        return x;
    }

    /** An object whose calls are counted: what it answers behind its 512th call is free. */
    private static final class Told {
        private final HogMortgage object = new HogMortgage();
        private int calls = 0;

        int call(String name, long... numbers) {
            calls++;
            Method m = FACE.get(name);
            if (m == null || calls > MOST_CALLS || numbers.length != m.getParameterCount()) {
                throw new IllegalStateException(name + " is no call, or one too many");
            }
            Object[] given = new Object[numbers.length];
            for (int k = 0; k < numbers.length; k++) {
                given[k] = m.getParameterTypes()[k] == long.class ? (Object) numbers[k] : (Object) Math.toIntExact(numbers[k]);
            }
            try {
                return (Integer) m.invoke(object, given);
            } catch (ReflectiveOperationException e) {
                throw new IllegalStateException(name + Arrays.toString(numbers) + " threw " + e.getCause());
            }
        }

        int write(String letters) {
            int answer = 0;
            for (int k = 0; k < letters.length(); k++) {
                answer = call("type", letters.charAt(k));
            }
            return answer;
        }

        int tell(String letters) {
            write(letters);
            return call("read");
        }

        /** The lane as it is now. */
        String lane() {
            StringBuilder s = new StringBuilder();
            for (int w = 0; w < 9; w++) {
                s.append(call("count", w)).append(' ');
            }
            int houses = call("count", 0);
            for (int h = 0; h < houses; h++) {
                s.append("| ");
                for (int w = 0; w < 5; w++) {
                    s.append(call("of", h, w)).append(' ');
                }
            }
            int hogs = call("count", 1);
            for (int g = 0; g < hogs; g++) {
                s.append("/ ");
                for (int w = 0; w < 4; w++) {
                    s.append(call("at", g, w)).append(' ');
                }
            }
            return s.append(draw()).append(" then ").append(call("then", 60, 1)).toString();
        }

        /** The lane, and as it was ahead of each thing that may be undone. */
        String laneAndPast() {
            StringBuilder s = new StringBuilder(lane());
            for (int k = 0; k < 9; k++) {
                int undone = call("undo");
                s.append("\n  undo ").append(undone);
                if (undone < 0) {
                    break;
                }
                s.append(' ').append(undoable());
            }
            return s.toString();
        }

        /** What an undoing may change. */
        private String undoable() {
            StringBuilder s = new StringBuilder();
            for (int w : new int[] {2, 3, 4, 8}) {
                s.append(call("count", w)).append(' ');
            }
            int houses = call("count", 0);
            for (int h = 0; h < houses; h++) {
                s.append("| ");
                for (int w = 0; w < 3; w++) {
                    s.append(call("of", h, w)).append(' ');
                }
            }
            int hogs = call("count", 1);
            for (int g = 0; g < hogs; g++) {
                s.append("/ ").append(call("at", g, 2)).append(' ');
            }
            return s.append(draw()).toString();
        }

        private String draw() {
            int draw = call("seed", 0);
            call("seed", draw);
            return "draw " + draw;
        }

        /** The sheets: each one's lane and items (what is not 0 to 20 is "?"), or - if it holds nothing. */
        String sheets() {
            call("read");
            tell("0;0.20;p1");
            StringBuilder s = new StringBuilder();
            int[] lanes = new int[4];
            for (int k = 0; k < 4; k++) {
                lanes[k] = -1;
                for (int lane = 3; lane >= 0; lane--) {
                    int answer = call("dawns", 0, 0, k, lane, 0, 1, 0);
                    if (answer >= 0 || answer == HogMortgage.INDEX) {
                        lanes[k] = lane;
                    }
                }
            }
            String[][] items = new String[4][24];
            for (int saucer : new int[] {20, 11, 2}) {
                call("put", 0, saucer);
                for (int k = 0; k < 4; k++) {
                    for (int i = 0; lanes[k] >= 0 && i < 24; i++) {
                        int hungers = call("dawns", 0, 0, k, lanes[k], i, 1, 1);
                        if (hungers < 0) {
                            break;
                        }
                        items[k][i] = items[k][i] == null ? "" : items[k][i];
                        items[k][i] += left(hungers, saucer);
                        if (saucer == 20 && (call("dawns", 0, 0, k, lanes[k], i, 1, 0) & 16) != 0) {
                            items[k][i] += "20";
                        }
                    }
                }
            }
            for (int k = 0; k < 4; k++) {
                s.append(k == 0 ? "" : " | ").append(lanes[k] < 0 ? "-" : lanes[k] + ":");
                int size = 0;
                for (; size < 24 && items[k][size] != null; size++) {
                    s.append(' ').append(items[k][size].isEmpty() ? "?" : items[k][size]);
                }
                int dropped = call("drop", k);
                s.append(dropped == (lanes[k] < 0 ? HogMortgage.NULL : size) ? "" : " but drop answered " + dropped);
            }
            return s.toString();
        }

        /** What a PLAIN hog of just these hungers would leave of a saucer; nothing to say if it has none of them. */
        private static String left(int hungers, int saucer) {
            if (hungers == 0) {
                return "";
            }
            return "" + Math.max(0, saucer - Integer.numberOfTrailingZeros(hungers));
        }
    }

    /** What other calls show; each one is asked of an object of its own, for asking changes it. */
    private enum Probe {
        LANE, IMAGE, TAPE, SHEETS;

        String shown(Told x) {
            switch (this) {
                case LANE: return x.laneAndPast();
                case IMAGE: return x.call("restore") + " " + x.laneAndPast();
                case TAPE: return x.call("type", ' ') + " " + x.call("read") + " " + x.lane();
                default: return x.sheets();
            }
        }
    }

    /** One row of a story. */
    private static final class Row {
        final String text;
        final int due;
        final int times;
        final String name;
        final String letters;
        private final long[] numbers;

        Row(String row) {
            text = row;
            if (row.startsWith("sheets [")) {
                name = "sheets";
                letters = row.substring(row.indexOf('[') + 1, row.lastIndexOf(']'));
                numbers = new long[0];
                due = 0;
                times = 1;
                return;
            }
            int equals = row.lastIndexOf(" = ");
            due = (int) number(row.substring(equals + 3));
            String call = row.substring(0, equals);
            int timesAt = call.indexOf(" times ");
            times = timesAt < 0 ? 1 : Integer.parseInt(call.substring(0, timesAt));
            call = timesAt < 0 ? call : call.substring(timesAt + 7);
            if (call.startsWith("tell [") || call.startsWith("write [")) {
                name = call.substring(0, call.indexOf(' '));
                letters = call.substring(call.indexOf('[') + 1, call.lastIndexOf(']'));
                numbers = new long[0];
                return;
            }
            name = call.substring(0, call.indexOf('('));
            letters = "";
            String inside = call.substring(call.indexOf('(') + 1, call.lastIndexOf(')'));
            String[] parts = inside.isEmpty() ? new String[0] : inside.split(", ");
            numbers = new long[parts.length];
            for (int k = 0; k < parts.length; k++) {
                numbers[k] = number(parts[k]);
            }
        }

        private static long number(String told) {
            switch (told) {
                case "BAD": return HogMortgage.BAD;
                case "NOT": return HogMortgage.NOT;
                case "FULL": return HogMortgage.FULL;
                case "NONE": return HogMortgage.NONE;
                case "NULL": return HogMortgage.NULL;
                case "CAST": return HogMortgage.CAST;
                case "INDEX": return HogMortgage.INDEX;
                case "SIZE": return HogMortgage.SIZE;
                case "least": return Integer.MIN_VALUE;
                case "most": return Integer.MAX_VALUE;
                default: break;
            }
            if (told.startsWith("'")) {
                return told.charAt(1);
            }
            if (told.startsWith("0b")) {
                return Long.parseLong(told.substring(2), 2);
            }
            return Long.parseLong(told);
        }

        boolean shows() {
            return name.equals("sheets");
        }

        boolean asks() {
            return ASKING.contains(name);
        }

        boolean reads() {
            return name.equals("tell") || name.equals("read");
        }

        int tell(Told x) {
            switch (name) {
                case "tell": return x.tell(letters);
                case "write": return x.write(letters);
                default: return x.call(name, numbers);
            }
        }
    }
}
