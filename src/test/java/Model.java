import java.util.ArrayDeque;
import java.util.ArrayList;
import java.util.Deque;
import java.util.List;

/**
 * The document once more, in another way and with all of Java: kinds are classes, texts go through a table of what may
 * stand where, sheets are the machine's own arrays, and what the machine finds is caught. RandomRunsTest holds
 * HogMortgage against it.
 */
final class Model {
    static final int BAD = -1, NOT = -2, FULL = -3, NONE = -4, NULL = -11, CAST = -12, INDEX = -13, SIZE = -14;

    static class House {
        int owes, saucer, looks, cream;
        boolean isLost() { return looks == 3; }
        House same() {
            House h = new House();
            h.owes = owes; h.saucer = saucer; h.looks = looks;
            return h;
        }
    }

    /** PLAIN; the other kinds are below it. */
    static class Hog {
        int hungry, at;
        boolean asleep;
        int would() { return hungry; }
        boolean stays(boolean satisfied) { return false; }
        boolean minds(Street s, int house) { return false; }

        void goOn(Street s, boolean satisfied) {
            if (stays(satisfied) && !s.houses.get(at).isLost()) return;
            List<Integer> open = new ArrayList<>();
            int m = s.houses.size();
            for (int k = 1; k < m; k++) if (!s.houses.get((at + k) % m).isLost()) open.add((at + k) % m);
            if (open.isEmpty()) return;
            for (int h : open) if (!minds(s, h)) { at = h; return; }
            at = open.get(0);
        }
    }

    static class Greedy extends Hog {
        @Override boolean stays(boolean satisfied) { return satisfied; }
    }

    static class Shy extends Hog {
        @Override boolean minds(Street s, int house) {
            for (Hog g : s.hogs) if (g != this && g.at == house) return true;
            return false;
        }
    }

    static final class Fat extends Greedy {
        @Override int would() { return hungry * 2; }
    }

    static final class Young extends Shy {
        @Override int would() { return hungry / 2; }
    }

    static Hog born(int kind, int hungry, int at) {
        Hog g = kind == 0 ? new Hog() : kind == 1 ? new Greedy() : kind == 2 ? new Shy() : kind == 3 ? new Fat() : new Young();
        g.hungry = hungry;
        g.at = at;
        return g;
    }

    static int kindOf(Hog g) {
        return g instanceof Fat ? 3 : g instanceof Young ? 4 : g instanceof Greedy ? 1 : g instanceof Shy ? 2 : 0;
    }

    static final class Street {
        List<House> houses = new ArrayList<>();
        List<Hog> hogs = new ArrayList<>();
        int interest = 5, night = 0, eaten = 0, draw = 1;
        int[] visited = new int[6];

        Street same() {
            Street s = new Street();
            for (House h : houses) s.houses.add(h.same());
            for (Hog g : hogs) s.hogs.add(born(kindOf(g), g.hungry, g.at));
            s.interest = interest; s.night = night; s.eaten = eaten; s.draw = draw;
            return s;
        }

        boolean winter() { return night % 20 > 14; }

        void oneNight() {
            for (House h : houses) h.cream = 0;
            if (!winter()) {
                for (House h : houses) if (!h.isLost()) h.cream = h.saucer;
                for (Hog g : hogs) if (!g.asleep) comes(g);
                for (House h : houses) {
                    if (!h.isLost()) h.owes = Math.min(9999, h.owes + h.owes * interest / 100);
                }
            }
            night += 1;
        }

        private void comes(Hog g) {
            House h = houses.get(g.at);
            boolean satisfied = false;
            if (!h.isLost()) {
                int had = Math.min(g.would(), h.cream);
                if (had != 0) visited[g.at]++;
                h.cream -= had;
                eaten += had;
                h.owes = Math.max(0, h.owes - had);
                satisfied = had >= g.would();
                if (!satisfied && h.owes != 0) h.looks++;
            }
            g.goOn(this, satisfied);
        }

        Street after(int n) {
            Street s = same();
            for (int k = 0; k < n; k++) s.oneNight();
            return s;
        }

        int lost() {
            int set = 0;
            for (int h = 0; h < houses.size(); h++) set += houses.get(h).isLost() ? 1 << h : 0;
            return set;
        }

        int owed() {
            int sum = 0;
            for (House h : houses) sum += h.owes;
            return sum;
        }
    }

    private Street now = new Street();
    private Deque<Street> before = new ArrayDeque<>();
    private Street keptNow;
    private Deque<Street> keptBefore;
    private final StringBuilder tape = new StringBuilder();
    private final Object[] sheets = new Object[4];

    private boolean noHouse(int h) { return h < 0 || h >= now.houses.size(); }
    private boolean noHog(int g) { return g < 0 || g >= now.hogs.size(); }

    private void remember() {
        before.addLast(now.same());
        if (before.size() == 9) before.removeFirst();
    }

    int house(int owes, int saucer) {
        if (owes < 0 || owes > 9999 || saucer < 0 || saucer > 20) return BAD;
        if (now.houses.size() == 6) return FULL;
        House h = new House();
        h.owes = owes; h.saucer = saucer;
        now.houses.add(h);
        before.clear();
        return now.houses.size() - 1;
    }

    int hog(int kind, int hungry, int house) {
        if (kind < 0 || kind > 4 || hungry < 1 || hungry > 9 || noHouse(house)) return BAD;
        if (now.hogs.size() == 5) return FULL;
        now.hogs.add(born(kind, hungry, house));
        before.clear();
        return now.hogs.size() - 1;
    }

    int interest(int v) {
        if (v < 0 || v > 20) return BAD;
        int was = now.interest;
        now.interest = v;
        return was;
    }

    int of(int house, int what) {
        if (noHouse(house) || what < 0 || what > 4) return BAD;
        House h = now.houses.get(house);
        if (what == 4) {
            int set = 0;
            for (int g = 0; g < now.hogs.size(); g++) if (now.hogs.get(g).at == house) set += 1 << g;
            return set;
        }
        return new int[] {h.owes, h.saucer, h.looks, h.isLost() ? 1 : 0}[what];
    }

    int at(int hog, int what) {
        if (noHog(hog) || what < 0 || what > 3) return BAD;
        Hog g = now.hogs.get(hog);
        return new int[] {kindOf(g), g.hungry, g.at, g.would()}[what];
    }

    int type(int letter) {
        if (letter < 32 || letter > 126) return BAD;
        if (tape.length() == 80) return FULL;
        tape.append((char) letter);
        return tape.length();
    }

    int read() {
        String text = tape.toString();
        tape.setLength(0);
        Street s = new Street();
        s.draw = now.draw;
        int answer = new Reader(text, s).run();
        if (answer < 0) return answer;
        now = s;
        before.clear();
        return answer;
    }

    /** A machine of states that takes a letter at a time. */
    static final class Reader {
        final String text;
        final Street s;
        String state = "interest";
        int digits, value, firstDigit;
        House house;
        Hog hog;

        Reader(String text, Street s) { this.text = text; this.s = s; }

        int run() {
            for (int p = 0; p < text.length(); p++) {
                char c = text.charAt(p);
                if (c == ' ') {
                    if (digits > 0) digits = 2;
                    continue;
                }
                int fault = step(c, p);
                if (fault >= 0) return -20 - fault;
            }
            if (digits > 0) {
                int fault = endNumber();
                if (fault >= 0) return -20 - fault;
            }
            if (!state.equals("looks") && !state.equals("place") && !state.equals("nexthog")) return -20 - text.length();
            return s.houses.size();
        }

        /** -1 if it can stand there, else the place of the fault. */
        int step(char c, int p) {
            boolean digit = Character.isDigit(c);
            if (state.equals("interest") || state.equals("owes") || state.equals("saucer")) {
                if (digit && digits < 2) {
                    if (digits == 0) { firstDigit = p; value = 0; }
                    value = value * 10 + (c - '0');
                    digits++;
                    return -1;
                }
                if (digits == 0) return p;
                int fault = endNumber();
                if (fault >= 0) return fault;
            }
            switch (state) {
                case "semicolon": return c == ';' ? to("owes") : p;
                case "dot": return c == '.' ? to("saucer") : p;
                case "looks":
                    if (c == '!' && house.looks < 3) { house.looks++; return -1; }
                    if (c == ',' && s.houses.size() < 6) return to("owes");
                    return c == ';' ? to("kind") : p;
                case "kind":
                    if ("pgsfy".indexOf(c) < 0) return p;
                    hog = born("pgsfy".indexOf(c), 1, 0);
                    s.hogs.add(hog);
                    return to("hungry");
                case "hungry":
                    if (!digit || c == '0') return p;
                    hog.hungry = c - '0';
                    return to("place");
                case "place":
                    if (c == '@') return to("at");
                    return c == ',' && s.hogs.size() < 5 ? to("kind") : p;
                case "at":
                    if (!digit || c - '0' >= s.houses.size()) return p;
                    hog.at = c - '0';
                    return to("nexthog");
                case "nexthog": return c == ',' && s.hogs.size() < 5 ? to("kind") : p;
                default: return p;
            }
        }

        int to(String next) {
            state = next;
            return -1;
        }

        int endNumber() {
            digits = 0;
            if (state.equals("interest")) {
                s.interest = value;
                state = "semicolon";
                return value > 20 ? firstDigit : -1;
            }
            if (state.equals("owes")) {
                house = new House();
                house.owes = value * 10;
                s.houses.add(house);
                state = "dot";
                return -1;
            }
            house.saucer = value;
            state = "looks";
            return value > 20 ? firstDigit : -1;
        }
    }

    int count(int what) {
        if (what < 0 || what > 8) return BAD;
        return new int[] {now.houses.size(), now.hogs.size(), now.night, now.interest, now.eaten, now.lost(), now.owed(),
            now.winter() ? 1 : 0, before.size()}[what];
    }

    int nights(int n) {
        if (n < 1 || n > 40) return BAD;
        if (now.night + n > 9999) return FULL;
        while (n-- > 0) {
            remember();
            now.oneNight();
        }
        return now.lost();
    }

    int put(int house, int saucer) {
        if (noHouse(house) || saucer < 0 || saucer > 20) return BAD;
        int was = now.houses.get(house).saucer;
        if (was == saucer) return NOT;
        remember();
        now.houses.get(house).saucer = saucer;
        return was;
    }

    int pay(int house, int n) {
        if (noHouse(house) || n < 1 || n > 9999) return BAD;
        House h = now.houses.get(house);
        if (h.owes == 0) return NOT;
        remember();
        return h.owes = Math.max(0, h.owes - n);
    }

    int drive(int hog, int house) {
        if (noHog(hog) || noHouse(house)) return BAD;
        int was = now.hogs.get(hog).at;
        if (was == house) return NOT;
        remember();
        now.hogs.get(hog).at = house;
        return was;
    }

    int forgive(int house) {
        if (noHouse(house)) return BAD;
        int had = now.houses.get(house).looks;
        if (had == 0) return NOT;
        remember();
        now.houses.get(house).looks = 0;
        return had;
    }

    int drift(int n) {
        if (n < 1 || n > 40) return BAD;
        if (now.night + n > 9999) return FULL;
        while (n-- > 0) {
            remember();
            now.draw = (now.draw * 1103515245 + 12345) & Integer.MAX_VALUE;
            int m = now.houses.size();
            if (m > 0) now.houses.get((now.draw >>> 16) % m).saucer = (now.draw >>> 7) % 21;
            now.oneNight();
        }
        return now.lost();
    }

    int undo() {
        if (before.isEmpty()) return NONE;
        int interest = now.interest;
        now = before.removeLast();
        now.interest = interest;
        return before.size();
    }

    int seed(int v) {
        if (v < 0) return BAD;
        int was = now.draw;
        now.draw = v;
        return was;
    }

    int ahead(int house, int n, int what) {
        if (noHouse(house) || n < 0 || n > 60 || what < 0 || what > 1) return BAD;
        House h = now.after(n).houses.get(house);
        return what == 0 ? h.owes : h.looks;
    }

    int where(int hog, int n) {
        if (noHog(hog) || n < 0 || n > 60) return BAD;
        return now.after(n).hogs.get(hog).at;
    }

    int then(int n, int what) {
        if (n < 0 || n > 60 || what < 0 || what > 1) return BAD;
        return what == 0 ? now.after(n).lost() : now.after(n).eaten;
    }

    int lost(int house) {
        if (noHouse(house)) return BAD;
        for (int n = 0; n <= 60; n++) if (now.after(n).houses.get(house).isLost()) return n;
        return NONE;
    }

    int free(int house) {
        if (noHouse(house)) return BAD;
        for (int n = 0; n <= 60; n++) if (now.after(n).houses.get(house).owes == 0) return n;
        return NONE;
    }

    int keep(int house, int n) {
        if (noHouse(house) || n < 1 || n > 40) return BAD;
        for (int v = 0; v <= 20; v++) {
            Street s = now.same();
            s.houses.get(house).saucer = v;
            if (!s.after(n).houses.get(house).isLost()) return v;
        }
        return NONE;
    }

    private int[] bestParting;
    private int bestKept, bestOwed;

    int part(int c, int n, int k) {
        if (c < 0 || c > 12 || n < 1 || n > 30 || k < -2) return BAD;
        int m = now.houses.size();
        if (m == 0 || k >= m) return NONE;
        bestParting = null;
        spread(new int[m], 0, c, n);
        return k == -1 ? bestKept : k == -2 ? bestOwed : bestParting[k];
    }

    private void spread(int[] saucers, int h, int rest, int n) {
        if (h == saucers.length - 1) {
            saucers[h] = rest;
            Street s = now.same();
            for (int i = 0; i < saucers.length; i++) s.houses.get(i).saucer = saucers[i];
            s = s.after(n);
            int kept = saucers.length - Integer.bitCount(s.lost());
            if (bestParting == null || kept > bestKept || kept == bestKept && s.owed() < bestOwed) {
                bestParting = saucers.clone();
                bestKept = kept;
                bestOwed = s.owed();
            }
            return;
        }
        for (int v = 0; v <= rest; v++) {
            saucers[h] = v;
            spread(saucers, h + 1, rest - v, n);
        }
    }

    int drives(int house, int n, int what) {
        if (noHouse(house) || n < 1 || n > 40 || what < 0 || what > 1) return BAD;
        long best = Long.MAX_VALUE;
        for (int g = 0; g < now.hogs.size(); g++) {
            for (int to = 0; to < now.houses.size(); to++) {
                if (now.hogs.get(g).at == to) continue;
                Street s = now.same();
                s.hogs.get(g).at = to;
                House h = s.after(n).houses.get(house);
                best = Math.min(best, (h.looks * 10000L + h.owes) * 100 + g * 10 + to);
            }
        }
        if (best == Long.MAX_VALUE) return NONE;
        return (int) (what == 0 ? best % 100 : best / 1000000);
    }

    int visits(int n, int what) {
        if (n < 1 || n > 40 || what < 0 || what > 1) return BAD;
        if (now.houses.isEmpty()) return NONE;
        int[] v = now.after(n).visited;
        int most = 0;
        for (int often : v) most = Math.max(most, often);
        if (what == 1) return most;
        for (int h = 0; h < 6; h++) if (v[h] == most) return h;
        return NONE;
    }

    int solvent(int house, int n) {
        if (noHouse(house) || n < 1 || n > 40) return BAD;
        int best = NONE;
        for (int v = 0; v <= 20; v++) {
            Street s = now.same();
            s.interest = v;
            if (s.after(n).houses.get(house).owes <= now.houses.get(house).owes) best = v;
        }
        return best;
    }

    int sleep(int house, int c, int what) {
        if (noHouse(house) || c < 0 || c > 10 || what < 0 || what > 1) return BAD;
        int m = now.hogs.size();
        // Ten to the power of m ways, each as likely as another: digit g below c means that hog g sleeps.
        boolean[] looks = new boolean[1 << m];
        for (int set = 0; set < looks.length; set++) {
            Street s = now.same();
            for (int g = 0; g < m; g++) s.hogs.get(g).asleep = (set & 1 << g) != 0;
            s.oneNight();
            looks[set] = s.houses.get(house).looks != now.houses.get(house).looks;
        }
        int all = 1;
        for (int g = 0; g < m; g++) all *= 10;
        int good = 0;
        for (int way = 0; way < all; way++) {
            int set = 0;
            for (int g = 0, rest = way; g < m; g++, rest /= 10) if (rest % 10 < c) set |= 1 << g;
            if (looks[set]) good++;
        }
        java.math.BigInteger d = java.math.BigInteger.valueOf(good).gcd(java.math.BigInteger.valueOf(all));
        return (what == 0 ? good : all) / d.intValue();
    }

    int image() {
        keptNow = now.same();
        keptBefore = new ArrayDeque<>();
        for (Street s : before) keptBefore.addLast(s.same());
        return 1;
    }

    int restore() {
        if (keptNow == null) return NONE;
        now = keptNow.same();
        before = new ArrayDeque<>();
        for (Street s : keptBefore) before.addLast(s.same());
        return 1;
    }

    private static long get(Object row, int lane, int i) {
        switch (lane) {
            case 0: return ((byte[]) row)[i];
            case 1: return ((short[]) row)[i];
            case 2: return ((int[]) row)[i];
            default: return ((long[]) row)[i];
        }
    }

    private static void set(Object row, int lane, int i, long v) {
        switch (lane) {
            case 0: ((byte[]) row)[i] = (byte) v; break;
            case 1: ((short[]) row)[i] = (short) v; break;
            case 2: ((int[]) row)[i] = (int) v; break;
            default: ((long[]) row)[i] = v; break;
        }
    }

    private static int length(Object row) {
        return java.lang.reflect.Array.getLength(row);
    }

    private int refused(int sheet, int lane, int i, int n) {
        try {
            length(sheets[sheet]);
            if (length(sheets[sheet]) == 0) {
                Object cast = new Object[] {byte[].class, short[].class, int[].class, long[].class}[lane];
                ((Class<?>) cast).cast(sheets[sheet]);
            }
            for (long k = i; k < (long) i + n; k++) get(sheets[sheet], lane, k > 99 ? 99 : (int) k);
            return 0;
        } catch (NullPointerException e) {
            return NULL;
        } catch (ClassCastException e) {
            return CAST;
        } catch (ArrayIndexOutOfBoundsException e) {
            return INDEX;
        }
    }

    int dawns(int hog, int house, int sheet, int lane, int i, int n, int what) {
        if (noHog(hog) || noHouse(house) || sheet < 0 || sheet > 3 || lane < 0 || lane > 3 || n < 1 || n > 8 || what < 0
                || what > 1) return BAD;
        int refused = refused(sheet, lane, i, n);
        if (refused < 0) return refused;
        int set = 0;
        for (int v = 0; v < 10; v++) {
            if (what == 0 && v > 4 || what == 1 && v == 0) continue;
            Street s = now.same();
            Hog g = s.hogs.get(hog);
            s.hogs.set(hog, what == 0 ? born(v, g.hungry, g.at) : born(kindOf(g), v, g.at));
            boolean so = true;
            for (int k = 0; k < n; k++) {
                s.oneNight();
                House h = s.houses.get(house);
                so &= get(sheets[sheet], lane, i + k) == (h.isLost() ? 0 : h.cream);
            }
            if (so) set |= 1 << v;
        }
        return set;
    }

    int film(int house, int n, int sheet, int lane, int i) {
        if (noHouse(house) || n < 1 || n > 24 || sheet < 0 || sheet > 3 || lane < 0 || lane > 3) return BAD;
        int refused = refused(sheet, lane, i, n);
        if (refused < 0) return refused;
        for (int k = 1; k <= n; k++) set(sheets[sheet], lane, i + k - 1, now.after(k).houses.get(house).owes);
        return n;
    }

    int sheet(int sheet, int lane, int n) {
        if (sheet < 0 || sheet > 3 || lane < 0 || lane > 3 || n > 24) return BAD;
        try {
            sheets[sheet] = lane == 0 ? new byte[n] : lane == 1 ? new short[n] : lane == 2 ? new int[n] : new long[n];
            return n;
        } catch (NegativeArraySizeException e) {
            return SIZE;
        }
    }

    int drop(int sheet) {
        if (sheet < 0 || sheet > 3) return BAD;
        if (sheets[sheet] == null) return NULL;
        int n = length(sheets[sheet]);
        sheets[sheet] = null;
        return n;
    }

    int item(int sheet, int lane, int i, long v) {
        if (sheet < 0 || sheet > 3 || lane < 0 || lane > 3) return BAD;
        int refused = refused(sheet, lane, i, 1);
        if (refused < 0) return refused;
        set(sheets[sheet], lane, i, v);
        return 1;
    }

    int copy(int from, int i, int to, int j, int n) {
        if (from < 0 || from > 3 || to < 0 || to > 3) return BAD;
        try {
            System.arraycopy(sheets[from], i, sheets[to], j, n);
            return n;
        } catch (NullPointerException e) {
            return NULL;
        } catch (ArrayStoreException e) {
            return CAST;
        } catch (IndexOutOfBoundsException e) {
            return INDEX;
        }
    }
}
