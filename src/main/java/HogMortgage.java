/** Houses round a lane, the cream they put out, and the hedgehogs that hold the mortgage. */
public final class HogMortgage {
    public static final int BAD = -1, NOT = -2, FULL = -3, NONE = -4, NULL = -11, CAST = -12, INDEX = -13, SIZE = -14;

    private static final int MAX_HOUSES = 6;
    private static final int MAX_HOGS = 5;
    private static final int MAX_OWES = 9999;
    private static final int MAX_SAUCER = 20;
    private static final int MAX_INTEREST = 20;
    private static final int MAX_HUNGRY = 9;
    private static final int LAST_NIGHT = 9999;
    private static final int FAR_NIGHTS = 60;
    private static final int NEAR_NIGHTS = 40;
    private static final int LOST_LOOKS = 3;
    private static final int KINDS = 5;
    private static final int PLAIN = 0, GREEDY = 1, SHY = 2, FAT = 3, YOUNG = 4;
    private static final int UNDOABLE = 8;
    private static final int TAPE_LETTERS = 80;
    private static final int SHEETS = 4;
    private static final int SHEET_ITEMS = 24;
    private static final int NOBODY_SLEEPS = 0;

    private final Lane now;
    /** The lane in which nights are foretold; every question fills it anew. */
    private final Lane trial;
    private final Past past;
    private final Parting parting;
    private final Tape tape;
    private final Sheet[] sheets;
    private final Lane imageNow;
    private final Past imagePast;
    private boolean hasImage;

    public HogMortgage() {
        now = new Lane();
        trial = new Lane();
        past = new Past();
        parting = new Parting();
        tape = new Tape();
        sheets = new Sheet[SHEETS];
        for (int k = 0; k < SHEETS; k++) {
            sheets[k] = new Sheet();
        }
        imageNow = new Lane();
        imagePast = new Past();
        hasImage = false;
    }

    // ---- 1 houses, hogs

    public int house(int owes, int saucer) {
        if (!within(owes, 0, MAX_OWES) || !within(saucer, 0, MAX_SAUCER)) {
            return BAD;
        }
        if (now.houses >= MAX_HOUSES) {
            return FULL;
        }
        past.forget();
        return now.addHouse(owes, saucer, 0);
    }

    public int hog(int kind, int hungry, int house) {
        if (!within(kind, 0, KINDS - 1) || !within(hungry, 1, MAX_HUNGRY) || !now.hasHouse(house)) {
            return BAD;
        }
        if (now.hogs >= MAX_HOGS) {
            return FULL;
        }
        past.forget();
        return now.addHog(kind, hungry, house);
    }

    public int interest(int v) {
        if (!within(v, 0, MAX_INTEREST)) {
            return BAD;
        }
        int was = now.interest;
        now.interest = v;
        return was;
    }

    public int of(int house, int what) {
        if (!now.hasHouse(house)) {
            return BAD;
        }
        switch (what) {
            case 0: return now.owes[house];
            case 1: return now.saucer[house];
            case 2: return now.looks[house];
            case 3: return now.isLost(house) ? 1 : 0;
            case 4: return now.guests(house);
            default: return BAD;
        }
    }

    public int at(int hog, int what) {
        if (!now.hasHog(hog)) {
            return BAD;
        }
        switch (what) {
            case 0: return now.kind[hog];
            case 1: return now.hungry[hog];
            case 2: return now.place[hog];
            case 3: return now.appetite(hog);
            default: return BAD;
        }
    }

    public int type(int letter) {
        if (!within(letter, 32, 126)) {
            return BAD;
        }
        if (tape.size >= TAPE_LETTERS) {
            return FULL;
        }
        return tape.add(letter);
    }

    public int read() {
        boolean good = tape.tellLane();
        tape.size = 0;
        if (!good) {
            return tape.fault;
        }
        int draw = now.draw;
        now.takeFrom(tape.told);
        now.draw = draw;
        past.forget();
        return now.houses;
    }

    public int count(int what) {
        switch (what) {
            case 0: return now.houses;
            case 1: return now.hogs;
            case 2: return now.night;
            case 3: return now.interest;
            case 4: return now.eaten;
            case 5: return now.lostSet();
            case 6: return now.owedByAll();
            case 7: return now.isWinter() ? 1 : 0;
            case 8: return past.size;
            default: return BAD;
        }
    }

    // ---- what is done

    public int nights(int n) {
        if (!within(n, 1, NEAR_NIGHTS)) {
            return BAD;
        }
        if (now.night + n > LAST_NIGHT) {
            return FULL;
        }
        for (int k = 0; k < n; k++) {
            past.remember(now);
            now.passNight(NOBODY_SLEEPS);
        }
        return now.lostSet();
    }

    public int put(int house, int saucer) {
        if (!now.hasHouse(house) || !within(saucer, 0, MAX_SAUCER)) {
            return BAD;
        }
        int was = now.saucer[house];
        if (was == saucer) {
            return NOT;
        }
        past.remember(now);
        now.saucer[house] = saucer;
        return was;
    }

    public int pay(int house, int n) {
        if (!now.hasHouse(house) || !within(n, 1, MAX_OWES)) {
            return BAD;
        }
        if (now.owes[house] == 0) {
            return NOT;
        }
        past.remember(now);
        now.takeOff(house, n);
        return now.owes[house];
    }

    public int drive(int hog, int house) {
        if (!now.hasHog(hog) || !now.hasHouse(house)) {
            return BAD;
        }
        int was = now.place[hog];
        if (was == house) {
            return NOT;
        }
        past.remember(now);
        now.place[hog] = house;
        return was;
    }

    public int forgive(int house) {
        if (!now.hasHouse(house)) {
            return BAD;
        }
        int had = now.looks[house];
        if (had == 0) {
            return NOT;
        }
        past.remember(now);
        now.looks[house] = 0;
        return had;
    }

    public int drift(int n) {
        if (!within(n, 1, NEAR_NIGHTS)) {
            return BAD;
        }
        if (now.night + n > LAST_NIGHT) {
            return FULL;
        }
        for (int k = 0; k < n; k++) {
            past.remember(now);
            now.drawSaucer();
            now.passNight(NOBODY_SLEEPS);
        }
        return now.lostSet();
    }

    public int undo() {
        if (past.size == 0) {
            return NONE;
        }
        // INTEREST is not among what comes back.
        int interest = now.interest;
        past.bringBack(now);
        now.interest = interest;
        return past.size;
    }

    public int seed(int v) {
        if (v < 0) {
            return BAD;
        }
        int was = now.draw;
        now.draw = v;
        return was;
    }

    // ---- 2 foretold

    public int ahead(int house, int n, int what) {
        if (!now.hasHouse(house) || !within(n, 0, FAR_NIGHTS) || !within(what, 0, 1)) {
            return BAD;
        }
        foretell(n);
        return what == 0 ? trial.owes[house] : trial.looks[house];
    }

    public int where(int hog, int n) {
        if (!now.hasHog(hog) || !within(n, 0, FAR_NIGHTS)) {
            return BAD;
        }
        foretell(n);
        return trial.place[hog];
    }

    public int then(int n, int what) {
        if (!within(n, 0, FAR_NIGHTS) || !within(what, 0, 1)) {
            return BAD;
        }
        foretell(n);
        return what == 0 ? trial.lostSet() : trial.eaten;
    }

    public int lost(int house) {
        if (!now.hasHouse(house)) {
            return BAD;
        }
        trial.takeFrom(now);
        for (int n = 0; n <= FAR_NIGHTS; n++) {
            if (trial.isLost(house)) {
                return n;
            }
            trial.passNight(NOBODY_SLEEPS);
        }
        return NONE;
    }

    public int free(int house) {
        if (!now.hasHouse(house)) {
            return BAD;
        }
        trial.takeFrom(now);
        for (int n = 0; n <= FAR_NIGHTS; n++) {
            if (trial.owes[house] == 0) {
                return n;
            }
            trial.passNight(NOBODY_SLEEPS);
        }
        return NONE;
    }

    public int keep(int house, int n) {
        if (!now.hasHouse(house) || !within(n, 1, NEAR_NIGHTS)) {
            return BAD;
        }
        for (int saucer = 0; saucer <= MAX_SAUCER; saucer++) {
            trial.takeFrom(now);
            trial.saucer[house] = saucer;
            trial.passNights(n);
            if (!trial.isLost(house)) {
                return saucer;
            }
        }
        return NONE;
    }

    public int part(int c, int n, int k) {
        if (!within(c, 0, 12) || !within(n, 1, 30) || k < -2) {
            return BAD;
        }
        if (k >= now.houses || now.houses == 0) {
            return NONE;
        }
        parting.find(now, trial, c, n);
        if (k == -1) {
            return parting.kept;
        }
        return k == -2 ? parting.owed : parting.best[k];
    }

    public int drives(int house, int n, int what) {
        if (!now.hasHouse(house) || !within(n, 1, NEAR_NIGHTS) || !within(what, 0, 1)) {
            return BAD;
        }
        int which = NONE;
        int looks = 0;
        int owes = 0;
        for (int g = 0; g < now.hogs; g++) {
            for (int h = 0; h < now.houses; h++) {
                if (now.place[g] == h) {
                    continue;
                }
                foretellDriven(g, h, n);
                int l = trial.looks[house];
                int o = trial.owes[house];
                if (which == NONE || l < looks || l == looks && o < owes) {
                    which = 10 * g + h;
                    looks = l;
                    owes = o;
                }
            }
        }
        return what == 0 || which == NONE ? which : looks;
    }

    public int visits(int n, int what) {
        if (!within(n, 1, NEAR_NIGHTS) || !within(what, 0, 1)) {
            return BAD;
        }
        if (now.houses == 0) {
            return NONE;
        }
        foretell(n);
        int most = 0;
        for (int h = 1; h < trial.houses; h++) {
            if (trial.meals[h] > trial.meals[most]) {
                most = h;
            }
        }
        return what == 0 ? most : trial.meals[most];
    }

    public int solvent(int house, int n) {
        if (!now.hasHouse(house) || !within(n, 1, NEAR_NIGHTS)) {
            return BAD;
        }
        for (int v = MAX_INTEREST; v >= 0; v--) {
            trial.takeFrom(now);
            trial.interest = v;
            trial.passNights(n);
            if (trial.owes[house] <= now.owes[house]) {
                return v;
            }
        }
        return NONE;
    }

    public int sleep(int house, int c, int what) {
        if (!now.hasHouse(house) || !within(c, 0, 10) || !within(what, 0, 1)) {
            return BAD;
        }
        int above = 0;
        int below = 0;
        for (int asleep = 0; asleep < 1 << now.hogs; asleep++) {
            int weight = chance(asleep, c);
            below += weight;
            if (weight > 0 && looksMore(house, asleep)) {
                above += weight;
            }
        }
        int shared = commonDivisor(above, below);
        if (shared < 1) {
            return BAD;
        }
        return (what == 0 ? above : below) / shared;
    }

    public int image() {
        imageNow.takeFrom(now);
        imagePast.takeFrom(past);
        hasImage = true;
        return 1;
    }

    public int restore() {
        if (!hasImage) {
            return NONE;
        }
        now.takeFrom(imageNow);
        past.takeFrom(imagePast);
        return 1;
    }

    // ---- 3 sheets

    public int dawns(int hog, int house, int sheet, int lane, int i, int n, int what) {
        if (!now.hasHog(hog) || !now.hasHouse(house) || !within(sheet, 0, SHEETS - 1) || !within(lane, 0, 3)
                || !within(n, 1, 8) || !within(what, 0, 1)) {
            return BAD;
        }
        Sheet row = sheets[sheet];
        int refusal = row.refusal(lane, i, n);
        if (refusal != 0) {
            return refusal;
        }
        int set = 0;
        int first = what == 0 ? 0 : 1;
        int last = what == 0 ? KINDS - 1 : MAX_HUNGRY;
        for (int v = first; v <= last; v++) {
            trial.takeFrom(now);
            if (what == 0) {
                trial.kind[hog] = v;
            } else {
                trial.hungry[hog] = v;
            }
            if (dawnsAs(house, row, i, n)) {
                set |= 1 << v;
            }
        }
        return set;
    }

    public int film(int house, int n, int sheet, int lane, int i) {
        if (!now.hasHouse(house) || !within(n, 1, SHEET_ITEMS) || !within(sheet, 0, SHEETS - 1)
                || !within(lane, 0, 3)) {
            return BAD;
        }
        Sheet row = sheets[sheet];
        int refusal = row.refusal(lane, i, n);
        if (refusal != 0) {
            return refusal;
        }
        trial.takeFrom(now);
        for (int k = 0; k < n; k++) {
            trial.passNight(NOBODY_SLEEPS);
            row.write(i + k, trial.owes[house]);
        }
        return n;
    }

    public int sheet(int sheet, int lane, int n) {
        if (!within(sheet, 0, SHEETS - 1) || !within(lane, 0, 3) || n > SHEET_ITEMS) {
            return BAD;
        }
        if (n < 0) {
            return SIZE;
        }
        sheets[sheet].begin(lane, n);
        return n;
    }

    public int drop(int sheet) {
        if (!within(sheet, 0, SHEETS - 1)) {
            return BAD;
        }
        Sheet row = sheets[sheet];
        if (!row.held) {
            return NULL;
        }
        row.held = false;
        return row.size;
    }

    public int item(int sheet, int lane, int i, long v) {
        if (!within(sheet, 0, SHEETS - 1) || !within(lane, 0, 3)) {
            return BAD;
        }
        Sheet row = sheets[sheet];
        int refusal = row.refusal(lane, i, 1);
        if (refusal != 0) {
            return refusal;
        }
        row.write(i, v);
        return 1;
    }

    public int copy(int from, int i, int to, int j, int n) {
        if (!within(from, 0, SHEETS - 1) || !within(to, 0, SHEETS - 1)) {
            return BAD;
        }
        Sheet source = sheets[from];
        Sheet target = sheets[to];
        if (!source.held || !target.held) {
            return NULL;
        }
        if (source.lane != target.lane) {
            return CAST;
        }
        if (!source.hasItems(i, n) || !target.hasItems(j, n)) {
            return INDEX;
        }
        System.arraycopy(source.items, i, target.items, j, n);
        return n;
    }

    // ---- what the calls share

    private static boolean within(int v, int low, int high) {
        return v >= low && v <= high;
    }

    private void foretell(int n) {
        trial.takeFrom(now);
        trial.passNights(n);
    }

    private void foretellDriven(int hog, int house, int n) {
        trial.takeFrom(now);
        trial.place[hog] = house;
        trial.passNights(n);
    }

    /** How many of 10 to the power of all HOGS: that just this set sleeps, each by c of 10. */
    private int chance(int asleep, int c) {
        int weight = 1;
        for (int g = 0; g < now.hogs; g++) {
            weight *= (asleep >> g & 1) == 1 ? c : 10 - c;
        }
        return weight;
    }

    private boolean looksMore(int house, int asleep) {
        trial.takeFrom(now);
        trial.passNight(asleep);
        return trial.looks[house] > now.looks[house];
    }

    private static int commonDivisor(int a, int b) {
        int x = a;
        int y = b;
        for (int k = 0; k < 64 && y > 0; k++) {
            int rest = x % y;
            x = y;
            y = rest;
        }
        return x;
    }

    private boolean dawnsAs(int house, Sheet row, int i, int n) {
        for (int k = 0; k < n; k++) {
            trial.passNight(NOBODY_SLEEPS);
            if (row.items[i + k] != trial.left[house]) {
                return false;
            }
        }
        return true;
    }

    /** HOUSES and HOGS at one moment, and how a NIGHT goes. */
    private static final class Lane {
        int houses;
        int hogs;
        int interest;
        int night;
        int eaten;
        int draw;
        final int[] owes;
        final int[] saucer;
        final int[] looks;
        final int[] kind;
        final int[] hungry;
        final int[] place;
        /** What was poured away in the latest NIGHT. */
        final int[] left;
        /** How often HOGS ate something at a HOUSE since this lane was taken from another. */
        final int[] meals;

        Lane() {
            owes = new int[MAX_HOUSES];
            saucer = new int[MAX_HOUSES];
            looks = new int[MAX_HOUSES];
            kind = new int[MAX_HOGS];
            hungry = new int[MAX_HOGS];
            place = new int[MAX_HOGS];
            left = new int[MAX_HOUSES];
            meals = new int[MAX_HOUSES];
            interest = 5;
            draw = 1;
        }

        void takeFrom(Lane other) {
            houses = other.houses;
            hogs = other.hogs;
            interest = other.interest;
            night = other.night;
            eaten = other.eaten;
            draw = other.draw;
            for (int h = 0; h < MAX_HOUSES; h++) {
                owes[h] = other.owes[h];
                saucer[h] = other.saucer[h];
                looks[h] = other.looks[h];
                meals[h] = 0;
            }
            for (int g = 0; g < MAX_HOGS; g++) {
                kind[g] = other.kind[g];
                hungry[g] = other.hungry[g];
                place[g] = other.place[g];
            }
        }

        void beginAnew() {
            houses = 0;
            hogs = 0;
            night = 0;
            eaten = 0;
        }

        boolean hasHouse(int h) {
            return h >= 0 && h < houses;
        }

        boolean hasHog(int g) {
            return g >= 0 && g < hogs;
        }

        int addHouse(int owed, int put, int looked) {
            int h = houses;
            if (h >= MAX_HOUSES) {
                return FULL;
            }
            owes[h] = owed;
            saucer[h] = put;
            looks[h] = looked;
            houses = h + 1;
            return h;
        }

        int addHog(int itsKind, int itsHunger, int itsHouse) {
            int g = hogs;
            if (g >= MAX_HOGS) {
                return FULL;
            }
            kind[g] = itsKind;
            hungry[g] = itsHunger;
            place[g] = itsHouse;
            hogs = g + 1;
            return g;
        }

        boolean isLost(int h) {
            return looks[h] >= LOST_LOOKS;
        }

        boolean isWinter() {
            return night % 20 >= 15;
        }

        int lostSet() {
            int set = 0;
            for (int h = 0; h < houses; h++) {
                if (isLost(h)) {
                    set |= 1 << h;
                }
            }
            return set;
        }

        int owedByAll() {
            int sum = 0;
            for (int h = 0; h < houses; h++) {
                sum += owes[h];
            }
            return sum;
        }

        int guests(int h) {
            int set = 0;
            for (int g = 0; g < hogs; g++) {
                if (place[g] == h) {
                    set |= 1 << g;
                }
            }
            return set;
        }

        int appetite(int g) {
            switch (kind[g]) {
                case FAT: return 2 * hungry[g];
                case YOUNG: return hungry[g] / 2;
                default: return hungry[g];
            }
        }

        void takeOff(int h, int n) {
            owes[h] = owes[h] > n ? owes[h] - n : 0;
        }

        void drawSaucer() {
            draw = (int) (draw * 1103515245L + 12345L & 0x7fffffffL);
            if (houses > 0) {
                saucer[draw / 65536 % houses] = draw / 128 % 21;
            }
        }

        void passNights(int n) {
            for (int k = 0; k < n; k++) {
                passNight(NOBODY_SLEEPS);
            }
        }

        void passNight(int asleep) {
            boolean winter = isWinter();
            for (int h = 0; h < houses; h++) {
                left[h] = winter || isLost(h) ? 0 : saucer[h];
            }
            if (!winter) {
                for (int g = 0; g < hogs; g++) {
                    if ((asleep >> g & 1) == 0) {
                        visit(g);
                    }
                }
                addInterest();
            }
            night++;
        }

        private void visit(int g) {
            int h = place[g];
            if (!hasHouse(h)) {
                return;
            }
            boolean hadEnough = !isLost(h) && eat(g, h);
            boolean stays = hadEnough && (kind[g] == GREEDY || kind[g] == FAT);
            if (!stays) {
                place[g] = nextHouse(g, h);
            }
        }

        /** Whether it had as much as it would. */
        private boolean eat(int g, int h) {
            int would = appetite(g);
            int had = would < left[h] ? would : left[h];
            left[h] -= had;
            eaten += had;
            takeOff(h, had);
            if (had > 0) {
                meals[h]++;
            }
            if (had < would && owes[h] > 0) {
                looks[h]++;
            }
            return had == would;
        }

        private int nextHouse(int g, int h) {
            boolean shy = kind[g] == SHY || kind[g] == YOUNG;
            int next = h;
            for (int k = 1, other = h + 1; k < houses; k++, other++) {
                if (other >= houses) {
                    other = 0;
                }
                if (isLost(other)) {
                    continue;
                }
                if (!shy || guests(other) == 0) {
                    return other;
                }
                if (next == h) {
                    next = other;
                }
            }
            return next;
        }

        private void addInterest() {
            for (int h = 0; h < houses; h++) {
                if (!isLost(h)) {
                    int more = owes[h] + owes[h] * interest / 100;
                    owes[h] = more < MAX_OWES ? more : MAX_OWES;
                }
            }
        }
    }

    /** The lanes ahead of the latest things done, oldest first. */
    private static final class Past {
        private final Lane[] lanes;
        int size;

        Past() {
            lanes = new Lane[UNDOABLE];
            for (int k = 0; k < UNDOABLE; k++) {
                lanes[k] = new Lane();
            }
        }

        void forget() {
            size = 0;
        }

        void remember(Lane lane) {
            if (size >= UNDOABLE) {
                dropOldest();
            }
            lanes[size].takeFrom(lane);
            size++;
        }

        private void dropOldest() {
            Lane oldest = lanes[0];
            for (int k = 1; k < UNDOABLE; k++) {
                lanes[k - 1] = lanes[k];
            }
            lanes[UNDOABLE - 1] = oldest;
            size = UNDOABLE - 1;
        }

        void bringBack(Lane lane) {
            if (size > 0) {
                size--;
                lane.takeFrom(lanes[size]);
            }
        }

        void takeFrom(Past other) {
            size = other.size;
            for (int k = 0; k < UNDOABLE; k++) {
                lanes[k].takeFrom(other.lanes[k]);
            }
        }
    }

    /** How spoons are best parted among the SAUCERS: every way is tried, the first ones first. */
    private static final class Parting {
        private static final int MANY = 10000;

        int kept;
        int owed;
        final int[] best;
        private final int[] way;

        Parting() {
            best = new int[MAX_HOUSES];
            way = new int[MAX_HOUSES];
        }

        void find(Lane from, Lane trial, int c, int n) {
            int houses = from.houses;
            if (houses < 1) {
                return;
            }
            kept = -1;
            for (int h = 0; h < houses; h++) {
                way[h] = 0;
            }
            way[houses - 1] = c;
            boolean more = true;
            for (int k = 0; more && k < MANY; k++) {
                judge(from, trial, n);
                more = nextWay(houses);
            }
        }

        private void judge(Lane from, Lane trial, int n) {
            int houses = from.houses;
            trial.takeFrom(from);
            for (int h = 0; h < houses; h++) {
                trial.saucer[h] = way[h];
            }
            int stand = houses;
            for (int k = 0; k < n && stand >= kept; k++) {
                trial.passNight(NOBODY_SLEEPS);
                // LOST is for good, so a way that has lost too many can stop here.
                stand = houses - Integer.bitCount(trial.lostSet());
            }
            int owes = trial.owedByAll();
            if (stand > kept || stand == kept && owes < owed) {
                kept = stand;
                owed = owes;
                for (int h = 0; h < houses; h++) {
                    best[h] = way[h];
                }
            }
        }

        /** The next way, by the SAUCER of HOUSE 0, then 1, rising; false: that was the last one. */
        private boolean nextWay(int houses) {
            for (int h = houses - 1; h > 0; h--) {
                int spoons = way[h];
                way[h] = 0;
                if (spoons > 0) {
                    way[h - 1]++;
                    way[houses - 1] = spoons - 1;
                    return true;
                }
            }
            return false;
        }
    }

    /** THE TAPE, and the LANE that it tells. */
    private static final class Tape {
        private static final int END = -1;
        private static final int FAULTS = -20;

        int size;
        int fault;
        final Lane told;
        private final int[] letters;
        private int place;

        Tape() {
            letters = new int[TAPE_LETTERS];
            told = new Lane();
        }

        int add(int letter) {
            if (size < TAPE_LETTERS) {
                letters[size] = letter;
                size++;
            }
            return size;
        }

        /** Whether the letters are a LANE, which is told then; else there is a fault. */
        boolean tellLane() {
            place = 0;
            told.beginAnew();
            int interest = number(MAX_INTEREST);
            if (interest < 0) {
                return false;
            }
            told.interest = interest;
            if (!takes(';')) {
                return faultAt(place);
            }
            if (!tellHouses()) {
                return false;
            }
            if (takes(';') && !tellHogs()) {
                return false;
            }
            return look() == END || faultAt(place);
        }

        private boolean tellHouses() {
            for (int k = 1; k <= MAX_HOUSES; k++) {
                if (!tellHouse()) {
                    return false;
                }
                if (k == MAX_HOUSES || !takes(',')) {
                    break;
                }
            }
            return true;
        }

        private boolean tellHouse() {
            int tens = number(99);
            if (tens < 0) {
                return false;
            }
            if (!takes('.')) {
                return faultAt(place);
            }
            int saucer = number(MAX_SAUCER);
            if (saucer < 0) {
                return false;
            }
            int looks = 0;
            while (looks < LOST_LOOKS && takes('!')) {
                looks++;
            }
            told.addHouse(10 * tens, saucer, looks);
            return true;
        }

        private boolean tellHogs() {
            for (int k = 1; k <= MAX_HOGS; k++) {
                if (!tellHog()) {
                    return false;
                }
                if (k == MAX_HOGS || !takes(',')) {
                    break;
                }
            }
            return true;
        }

        private boolean tellHog() {
            int kind = kindOf(look());
            if (kind < 0) {
                return faultAt(place);
            }
            place++;
            int hungry = look() - '0';
            if (hungry < 1 || hungry > MAX_HUNGRY) {
                return faultAt(place);
            }
            place++;
            int house = 0;
            if (takes('@')) {
                house = look() - '0';
                if (!told.hasHouse(house)) {
                    return faultAt(place);
                }
                place++;
            }
            told.addHog(kind, hungry, house);
            return true;
        }

        private static int kindOf(int letter) {
            switch (letter) {
                case 'p': return PLAIN;
                case 'g': return GREEDY;
                case 's': return SHY;
                case 'f': return FAT;
                case 'y': return YOUNG;
                default: return -1;
            }
        }

        /** A number of 1 or 2 digits, 0 to most; else a fault, and -1. */
        private int number(int most) {
            if (!isDigit(look())) {
                faultAt(place);
                return -1;
            }
            int first = place;
            int v = 0;
            for (int k = 0; k < 2 && place < size && isDigit(letters[place]); k++) {
                v = 10 * v + letters[place] - '0';
                place++;
            }
            if (v > most) {
                faultAt(first);
                return -1;
            }
            return v;
        }

        private static boolean isDigit(int letter) {
            return letter >= '0' && letter <= '9';
        }

        /** The next letter behind blanks; the place stands there. */
        private int look() {
            while (place < size && letters[place] == ' ') {
                place++;
            }
            return place < size ? letters[place] : END;
        }

        private boolean takes(int letter) {
            if (look() != letter) {
                return false;
            }
            place++;
            return true;
        }

        private boolean faultAt(int letter) {
            fault = FAULTS - letter;
            return false;
        }
    }

    /** Nothing, or a row of a LANE: its items are kept as longs that have been cut to the LANE's bits. */
    private static final class Sheet {
        boolean held;
        int lane;
        int size;
        final long[] items;

        Sheet() {
            items = new long[SHEET_ITEMS];
        }

        void begin(int itsLane, int n) {
            held = true;
            lane = itsLane;
            size = n;
            for (int k = 0; k < SHEET_ITEMS; k++) {
                items[k] = 0;
            }
        }

        boolean hasItems(int i, int n) {
            return i >= 0 && n >= 0 && i <= size - n;
        }

        /** Why n items from i on can't be taken as a row of a LANE; 0: they can. */
        int refusal(int asLane, int i, int n) {
            if (!held) {
                return NULL;
            }
            if (lane != asLane) {
                return CAST;
            }
            return hasItems(i, n) ? 0 : INDEX;
        }

        void write(int i, long v) {
            if (!hasItems(i, 1)) {
                return;
            }
            switch (lane) {
                case 0: items[i] = (byte) v; break;
                case 1: items[i] = (short) v; break;
                case 2: items[i] = (int) v; break;
                default: items[i] = v; break;
            }
        }
    }
}
