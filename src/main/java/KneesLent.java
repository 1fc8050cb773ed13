import java.util.Arrays;

/** Borrowed knees of a parish: told by a text, lent, walked on, brought back, pledged, and what follows from it. */
public final class KneesLent {
    public static final int BAD = -1, STATE = -2, FULL = -3, NONE = -9;
    public static final int NO = -1000000;

    private static final int MOST_KNEES = 9, MOST_PEOPLE = 6, FARMS = 5;
    private static final int MOST_LETTERS = 180, FAULTS_FROM = -10;
    private static final int LAST_DAY = 999, MOST_OIL = 99999, MOST_FINES = 9999, MOST_GAVE = 999;
    private static final int MOST_TOLD = 6, MOST_FELT = 5, IMAGES = 2;

    private final char[] text = new char[MOST_LETTERS];
    private int letters = 0;
    private final Reader reader = new Reader();
    // Two parishes change places, so that a text with a fault leaves the one in use as it was.
    private Parish parish = new Parish();
    private Parish spare = new Parish();
    private final Now now = new Now();
    private final Deeds deeds = new Deeds();
    private final Hearsay hearsay = new Hearsay();
    private final Lender lender = new Lender();
    private final Now[] images = new Now[IMAGES];
    private final boolean[] kept = new boolean[IMAGES];
    private long trace = 0;

    public KneesLent() {
        for (int i = 0; i < IMAGES; i++) {
            images[i] = new Now();
        }
    }

    // ---- the parish

    public int type(int letter) {
        if (!within(letter, 0, 255)) {
            return BAD;
        }
        if (letters >= MOST_LETTERS) {
            return FULL;
        }
        text[letters] = (char) letter;
        letters++;
        return letters;
    }

    public int clear() {
        int had = letters;
        letters = 0;
        return had;
    }

    public int parish() {
        if (!reader.reads(text, letters, spare)) {
            return FAULTS_FROM - reader.start;
        }
        Parish old = parish;
        parish = spare;
        spare = old;
        parish.seatFarms();
        letters = 0;
        now.begin(parish);
        deeds.known = 0;
        hearsay.silence();
        for (int i = 0; i < IMAGES; i++) {
            kept[i] = false;
        }
        return reader.items;
    }

    public int knee(int k, int what) {
        if (!parish.hasKnee(k)) {
            return BAD;
        }
        switch (what) {
            case 0: return parish.side[k];
            case 1: return parish.farm[k];
            case 2: return now.left[k];
            case 3: return now.holder[k];
            case 4: return bit(now.pledged, k);
            default: return BAD;
        }
    }

    public int person(int p, int what) {
        if (!parish.hasPerson(p)) {
            return BAD;
        }
        switch (what) {
            case 0: return parish.needs[p];
            case 1: return parish.up[p];
            case 2: return parish.down[p];
            case 3: return kneeHeld(p, 0);
            case 4: return kneeHeld(p, 1);
            case 5: return isReady(p) ? 1 : 0;
            default: return BAD;
        }
    }

    public int farm(int f, int what) {
        if (!within(f, 0, FARMS - 1)) {
            return BAD;
        }
        switch (what) {
            case 0: return parish.oil[f];
            case 1: return parish.feuds[f];
            case 2: return parish.kneesOf(f);
            case 3: return parish.table[f];
            default: return BAD;
        }
    }

    public int now(int what) {
        switch (what) {
            case 0: return now.day;
            case 1: return kneesAtHome();
            case 2: return now.oil;
            case 3: return now.fines;
            case 4: return now.gave;
            case 5: return restingKnee();
            case 6: return parish.tables;
            case 7: return deeds.known;
            default: return BAD;
        }
    }

    // ---- what is done

    public int lends(int k, int p) {
        if (!parish.hasKnee(k) || !parish.hasPerson(p)) {
            return BAD;
        }
        if (!mayBeLent(k, p)) {
            return STATE;
        }
        deeds.remember(now);
        now.holder[k] = p;
        now.oil = Math.min(MOST_OIL, now.oil + parish.oil[parish.farm[k]]);
        return now.oil;
    }

    public int walks(int p, int u, int d) {
        if (!parish.hasPerson(p) || !within(u, 0, 20) || !within(d, 0, 20)) {
            return BAD;
        }
        if (!isReady(p)) {
            return STATE;
        }
        deeds.remember(now);
        int gave = 0;
        for (int k = 0; k < parish.knees; k++) {
            if (now.holder[k] == p && !now.bears(k, wear(u, d))) {
                gave++;
            }
        }
        now.gave = Math.min(MOST_GAVE, now.gave + gave);
        return gave;
    }

    public int brings(int k) {
        if (!parish.hasKnee(k)) {
            return BAD;
        }
        int holder = now.holder[k];
        if (holder == NONE) {
            return STATE;
        }
        deeds.remember(now);
        now.holder[k] = NONE;
        return holder;
    }

    public int pledges(int k, int is) {
        if (!parish.hasKnee(k) || !within(is, 0, 1)) {
            return BAD;
        }
        if (bit(now.pledged, k) == is || now.holder[k] != NONE) {
            return STATE;
        }
        deeds.remember(now);
        now.pledged ^= 1 << k;
        return Integer.bitCount(now.pledged);
    }

    public int bell() {
        if (now.day >= LAST_DAY) {
            return STATE;
        }
        deeds.remember(now);
        int lent = parish.knees - Integer.bitCount(kneesAtHome());
        now.day++;
        now.fines = Math.min(MOST_FINES, now.fines + lent);
        return lent;
    }

    public int undo() {
        if (deeds.known == 0) {
            return STATE;
        }
        deeds.takeBack(now);
        return deeds.known;
    }

    // ---- lending

    public int canGo(int k, int p) {
        if (!parish.hasKnee(k) || !parish.hasPerson(p)) {
            return BAD;
        }
        return now.offers(parish, k, p) ? 1 : 0;
    }

    public int lending(int set) {
        if (!within(set, 0, parish.everybody())) {
            return BAD;
        }
        lender.weigh(parish, now, set);
        return lender.goers() == set ? lender.leastOil() : NONE;
    }

    public int kneeFor(int set, int p, int side) {
        if (!within(set, 0, parish.everybody()) || !parish.hasPerson(p) || !within(side, 0, 1)) {
            return BAD;
        }
        if (bit(set, p) == 0) {
            return BAD;
        }
        lender.weigh(parish, now, set);
        return lender.goers() == set ? lender.kneeChosen(p, side) : NONE;
    }

    public int most(int what) {
        if (!within(what, 0, 2)) {
            return BAD;
        }
        lender.weigh(parish, now, parish.everybody());
        switch (what) {
            case 0: return lender.goers();
            case 1: return Integer.bitCount(lender.goers());
            default: return lender.leastOil();
        }
    }

    public int span(int k, int p) {
        if (!parish.hasKnee(k) || !parish.hasPerson(p)) {
            return BAD;
        }
        int each = parish.wearOf(p);
        return each == 0 ? NONE : now.left[k] / each;
    }

    public int gives(int k, int n, int a, int b, int x, int what) {
        if (!parish.hasKnee(k) || !within(n, 0, 6) || !within(a, 0, 30) || !within(b, 0, 30)) {
            return BAD;
        }
        if (!within(x, 0, 10) || !within(what, 0, 1)) {
            return BAD;
        }
        int upper = waysToGive(n, a, b, x, now.left[k]);
        int lower = 1;
        for (int day = 0; day < n; day++) {
            lower *= 10;
        }
        int common = sharedOfTens(upper, n, 2) * sharedOfTens(upper, n, 5);
        return (what == 0 ? upper : lower) / common;
    }

    // ---- wear, rain

    public int tells(int p, int n, int w) {
        if (!parish.hasPerson(p) || !within(n, 0, 40) || !within(w, 0, 80)) {
            return BAD;
        }
        if (hearsay.told >= MOST_TOLD) {
            return FULL;
        }
        hearsay.hearSteps(p, n, w);
        return hearsay.told;
    }

    public int downhill(int what) {
        switch (what) {
            case 0: return hearsay.downhill;
            case 1: return hearsay.liars;
            default: return BAD;
        }
    }

    public int felt(int f, int is) {
        if (!within(f, 0, FARMS - 1) || !within(is, 0, 1)) {
            return BAD;
        }
        if (hearsay.felt >= MOST_FELT) {
            return FULL;
        }
        hearsay.hearRain(f, is);
        return hearsay.felt;
    }

    public int rain(int what) {
        if (!within(what, 0, 2)) {
            return BAD;
        }
        int sets = 0;
        int inAll = parish.everybody();
        int fewest = MOST_PEOPLE;
        for (int set = 0; set <= parish.everybody(); set++) {
            if (hearsay.canBeRain(farmsThatFeelRainOn(set))) {
                sets++;
                inAll &= set;
                fewest = Math.min(fewest, Integer.bitCount(set));
            }
        }
        if (what == 0) {
            return sets;
        }
        if (sets == 0) {
            return NONE;
        }
        return what == 1 ? inAll : fewest;
    }

    public int forget() {
        int both = hearsay.told + hearsay.felt;
        hearsay.silence();
        return both;
    }

    // ---- kinds, images

    public int rate(int kind, int k) {
        if (!parish.hasKnee(k)) {
            return NO;
        }
        switch (kind) {
            case 0: return rateAsKnee(k);
            case 1: return rateAsDance(k);
            case 2: return rateAsStair(k);
            case 3: return rateAsGroom(k);
            case 4: return rateAsPriest(k);
            case 5: return rateAsBell(k);
            default: return NO;
        }
    }

    public int keep(int image) {
        if (!within(image, 0, IMAGES - 1)) {
            return BAD;
        }
        images[image].copy(now);
        kept[image] = true;
        return now.day;
    }

    public int back(int image) {
        if (!within(image, 0, IMAGES - 1)) {
            return BAD;
        }
        if (!kept[image]) {
            return STATE;
        }
        now.copy(images[image]);
        deeds.known = 0;
        return now.day;
    }

    public int count(int what) {
        switch (what) {
            case 0: return parish.knees;
            case 1: return parish.people;
            case 2: return hearsay.told;
            case 3: return hearsay.felt;
            case 4: return letters;
            default: return BAD;
        }
    }

    public long trace() {
        return trace;
    }

    // ---- what the calls above ask for

    private static boolean within(int number, int least, int most) {
        return number >= least && number <= most;
    }

    private static int bit(int bits, int place) {
        return (bits >> place) & 1;
    }

    private static int wear(int up, int down) {
        return up + 2 * down;
    }

    private int kneeHeld(int p, int side) {
        for (int k = 0; k < parish.knees; k++) {
            if (now.holder[k] == p && parish.side[k] == side) {
                return k;
            }
        }
        return NONE;
    }

    private boolean isReady(int p) {
        for (int side = 0; side < 2; side++) {
            if (parish.needsSide(p, side) && kneeHeld(p, side) == NONE) {
                return false;
            }
        }
        return true;
    }

    private boolean mayBeLent(int k, int p) {
        int side = parish.side[k];
        if (!now.isFree(k) || now.left[k] == 0 || !parish.needsSide(p, side)) {
            return false;
        }
        int other = kneeHeld(p, 1 - side);
        return kneeHeld(p, side) == NONE && (other == NONE || parish.speak(k, other));
    }

    private int kneesAtHome() {
        int home = 0;
        for (int k = 0; k < parish.knees; k++) {
            if (now.holder[k] == NONE) {
                home |= 1 << k;
            }
        }
        return home;
    }

    private int restingKnee() {
        int rest = NONE;
        for (int k = 0; k < parish.knees; k++) {
            if (now.isFree(k) && (rest == NONE || now.left[k] < now.left[rest])) {
                rest = k;
            }
        }
        return rest;
    }

    private int farmsThatFeelRainOn(int set) {
        int wet = 0;
        for (int k = 0; k < parish.knees; k++) {
            if (now.holder[k] != NONE && bit(set, now.holder[k]) == 1) {
                wet |= 1 << parish.farm[k];
            }
        }
        return wet;
    }

    /** Of 10 to the number of days ways, those by which more is worn off than is left; days are 6 at most. */
    private static int waysToGive(int days, int a, int b, int x, int left) {
        if (days <= 0) {
            return left < 0 ? 1 : 0;
        }
        return x * waysToGive(days - 1, a, b, x, left - a) + (10 - x) * waysToGive(days - 1, a, b, x, left - b);
    }

    /** The highest power of a prime of 10 that divides both a number and 10 to the number of days. */
    private static int sharedOfTens(int number, int days, int prime) {
        int shared = 1;
        for (int day = 0; day < days && number % (shared * prime) == 0; day++) {
            shared *= prime;
        }
        return shared;
    }

    private int rateAsKnee(int k) {
        trace += 1;
        return now.left[k];
    }

    private int rateAsDance(int k) {
        trace += 10;
        return rateAsKnee(k) + parish.oil[parish.farm[k]];
    }

    private int rateAsStair(int k) {
        trace += 100;
        return rateAsKnee(k) - (parish.steps[k] - now.left[k]);
    }

    private int rateAsGroom(int k) {
        trace += 1000;
        return 2 * rateAsDance(k);
    }

    private int rateAsPriest(int k) {
        trace += 10000;
        return rateAsStair(k) + k;
    }

    private int rateAsBell(int k) {
        trace += 100000;
        return rateAsKnee(k) + now.fines;
    }

    /** What a text tells: it stays as it is until another text is read. */
    private static final class Parish {
        int knees = 0;
        final int[] side = new int[MOST_KNEES];
        final int[] farm = new int[MOST_KNEES];
        final int[] steps = new int[MOST_KNEES];
        int people = 0;
        final int[] needs = new int[MOST_PEOPLE];
        final int[] up = new int[MOST_PEOPLE];
        final int[] down = new int[MOST_PEOPLE];
        final int[] feuds = new int[FARMS];
        final int[] oil = new int[FARMS];
        final int[] table = new int[FARMS];
        int tables = 0;

        Parish() {
            desert();
            Arrays.fill(table, NONE);
        }

        void desert() {
            knees = 0;
            people = 0;
            Arrays.fill(feuds, 0);
            Arrays.fill(oil, 1);
        }

        boolean hasKnee(int k) {
            return within(k, 0, knees - 1);
        }

        boolean hasPerson(int p) {
            return within(p, 0, people - 1);
        }

        int everybody() {
            return (1 << people) - 1;
        }

        boolean needsSide(int p, int s) {
            return bit(needs[p], s) == 1;
        }

        int wearOf(int p) {
            return wear(up[p], down[p]);
        }

        boolean speak(int k, int other) {
            return bit(feuds[farm[k]], farm[other]) == 0;
        }

        int kneesOf(int f) {
            int own = 0;
            for (int k = 0; k < knees; k++) {
                if (farm[k] == f) {
                    own |= 1 << k;
                }
            }
            return own;
        }

        void addKnee(int s, int f, int n) {
            side[knees] = s;
            farm[knees] = f;
            steps[knees] = n;
            knees++;
        }

        void addPerson(int b, int u, int d) {
            needs[people] = b;
            up[people] = u;
            down[people] = d;
            people++;
        }

        void addFeud(int a, int b) {
            feuds[a] |= 1 << b;
            feuds[b] |= 1 << a;
        }

        void seatFarms() {
            tables = 0;
            // Ends at the latest with a table for each farm, where all can sit.
            while (!seatsFrom(0) && tables < FARMS) {
                tables++;
            }
        }

        /** Seats a farm and those behind it, each at the lowest table that leaves room for the rest. */
        private boolean seatsFrom(int f) {
            if (f >= FARMS) {
                return true;
            }
            table[f] = NONE;
            if (kneesOf(f) == 0) {
                return seatsFrom(f + 1);
            }
            for (int t = 0; t < tables; t++) {
                if (hasPeaceAt(t, f)) {
                    table[f] = t;
                    if (seatsFrom(f + 1)) {
                        return true;
                    }
                }
            }
            return false;
        }

        private boolean hasPeaceAt(int t, int f) {
            for (int g = 0; g < f; g++) {
                if (table[g] == t && bit(feuds[f], g) == 1) {
                    return false;
                }
            }
            return true;
        }
    }

    /** Reads a text into a parish, token by token. */
    private static final class Reader {
        private static final int END = 256, NUMBER = 257, WRONG = 258;
        private static final int[] KNEE_LEAST = {0, 0, 1}, KNEE_MOST = {1, 4, 60};
        private static final int[] PERSON_LEAST = {1, 0, 0}, PERSON_MOST = {3, 20, 20};
        private static final int[] FEUD_LEAST = {0, 0}, FEUD_MOST = {4, 4};
        private static final int[] OIL_LEAST = {0, 0}, OIL_MOST = {4, 9};

        private char[] text = null;
        private int length = 0;
        private int place = 0;
        private Parish into = null;
        private final int[] numbers = new int[3];
        private int token = END;
        private int value = 0;
        /** Where the token starts: the fault's place, once a text could not be read. */
        int start = 0;
        int items = 0;

        boolean reads(char[] letters, int many, Parish empty) {
            text = letters;
            length = Math.min(many, letters.length);
            place = 0;
            items = 0;
            into = empty;
            into.desert();
            takeToken();
            while (token != END && items < MOST_LETTERS) {
                if (!readsItem()) {
                    return false;
                }
                items++;
                takeToken();
            }
            return true;
        }

        /** Reads an item whose letter was taken; what stands ahead of a fault is lost with the parish it went into. */
        private boolean readsItem() {
            switch (token) {
                case 'k':
                    if (into.knees >= MOST_KNEES || !readsNumbers(KNEE_LEAST, KNEE_MOST)) {
                        return false;
                    }
                    into.addKnee(numbers[0], numbers[1], numbers[2]);
                    break;
                case 'p':
                    if (into.people >= MOST_PEOPLE || !readsNumbers(PERSON_LEAST, PERSON_MOST)) {
                        return false;
                    }
                    into.addPerson(numbers[0], numbers[1], numbers[2]);
                    break;
                case 'x':
                    // Looked at ahead of the item's end: the fault is the second farm's place.
                    if (!readsNumbers(FEUD_LEAST, FEUD_MOST) || numbers[0] == numbers[1]) {
                        return false;
                    }
                    into.addFeud(numbers[0], numbers[1]);
                    break;
                case 'o':
                    if (!readsNumbers(OIL_LEAST, OIL_MOST)) {
                        return false;
                    }
                    into.oil[numbers[0]] = numbers[1];
                    break;
                default:
                    return false;
            }
            takeToken();
            return token == ';';
        }

        private boolean readsNumbers(int[] least, int[] most) {
            for (int i = 0; i < least.length && i < most.length && i < numbers.length; i++) {
                takeToken();
                if (token != NUMBER || !within(value, least[i], most[i])) {
                    return false;
                }
                numbers[i] = value;
            }
            return true;
        }

        private void takeToken() {
            while (place < length && text[place] == ' ') {
                place++;
            }
            start = place;
            if (place >= length) {
                token = END;
            } else if (isDigit(text[place])) {
                takeNumber();
            } else {
                // A letter that is no token is refused wherever it stands, as no item asks for it.
                token = text[place];
                place++;
            }
        }

        private void takeNumber() {
            value = 0;
            while (place < length && isDigit(text[place])) {
                // Above 99 only that it is so matters; a long number must not wrap around.
                value = Math.min(100, value * 10 + (text[place] - '0'));
                place++;
            }
            boolean zeroAhead = text[start] == '0' && place - start > 1;
            token = value > 99 || zeroAhead ? WRONG : NUMBER;
        }

        private static boolean isDigit(char letter) {
            return letter >= '0' && letter <= '9';
        }
    }

    /** How things are: what deeds change, and images keep. */
    private static final class Now {
        int day = 0;
        int oil = 0;
        int fines = 0;
        int gave = 0;
        int pledged = 0;
        final int[] holder = new int[MOST_KNEES];
        final int[] left = new int[MOST_KNEES];

        void begin(Parish parish) {
            day = 0;
            oil = 0;
            fines = 0;
            gave = 0;
            pledged = 0;
            Arrays.fill(holder, NONE);
            System.arraycopy(parish.steps, 0, left, 0, MOST_KNEES);
        }

        void copy(Now other) {
            day = other.day;
            oil = other.oil;
            fines = other.fines;
            gave = other.gave;
            pledged = other.pledged;
            System.arraycopy(other.holder, 0, holder, 0, MOST_KNEES);
            System.arraycopy(other.left, 0, left, 0, MOST_KNEES);
        }

        boolean isFree(int k) {
            return holder[k] == NONE && bit(pledged, k) == 0;
        }

        boolean offers(Parish parish, int k, int p) {
            return isFree(k) && parish.needsSide(p, parish.side[k]) && left[k] >= parish.wearOf(p);
        }

        /** Wears a knee; false if it gives. */
        boolean bears(int k, int wear) {
            boolean holds = left[k] >= wear;
            left[k] = holds ? left[k] - wear : 0;
            return holds;
        }
    }

    /** How things were ahead of each of the latest deeds, in a ring. */
    private static final class Deeds {
        private static final int MOST_KNOWN = 10;

        private final Now[] before = new Now[MOST_KNOWN];
        private int next = 0;
        int known = 0;

        Deeds() {
            for (int i = 0; i < MOST_KNOWN; i++) {
                before[i] = new Now();
            }
        }

        void remember(Now now) {
            before[next].copy(now);
            next = next + 1 < MOST_KNOWN ? next + 1 : 0;
            known = Math.min(MOST_KNOWN, known + 1);
        }

        void takeBack(Now now) {
            next = next > 0 ? next - 1 : MOST_KNOWN - 1;
            now.copy(before[next]);
            known--;
        }
    }

    /** What was told and felt, kept as the bits that follow from it: no more is ever asked of it. */
    private static final class Hearsay {
        int told = 0;
        int downhill = 0;
        int liars = 0;
        int felt = 0;
        private int wet = 0;
        private int dry = 0;

        void silence() {
            told = 0;
            downhill = 0;
            liars = 0;
            felt = 0;
            wet = 0;
            dry = 0;
        }

        void hearSteps(int p, int steps, int worn) {
            told++;
            int down = worn - steps;
            if (!within(down, 0, steps)) {
                liars |= 1 << p;
            } else if (down > 0) {
                downhill |= 1 << p;
            }
        }

        void hearRain(int f, int is) {
            felt++;
            if (is == 1) {
                wet |= 1 << f;
            } else {
                dry |= 1 << f;
            }
        }

        boolean canBeRain(int farms) {
            return (farms & wet) == wet && (farms & dry) == 0;
        }
    }

    /**
     * Weighs all ways to lend knees to people of a set. A worth is one number, the less the better: how many of the
     * set stay, then the oil, then the bits of those who go. So the least worth tells the most who can go; and if
     * nobody stays, it is that of the set's own lending.
     */
    private static final class Lender {
        private static final int STAYS = 8192, OIL_UNIT = 64, OIL_BITS = 127, GOER_BITS = 63;
        private static final int WAYS = 1 << MOST_KNEES, UNKNOWN = -1;
        // Stands for a knee of the side that a person does not need, and is never used up.
        private static final int NOTHING = MOST_KNEES;

        private final int[] worth = new int[MOST_PEOPLE * WAYS];
        private final int[] lefts = new int[MOST_PEOPLE];
        private final int[] rights = new int[MOST_PEOPLE];
        private Parish parish = null;
        private int set = 0;
        private int answer = 0;

        void weigh(Parish of, Now now, int people) {
            parish = of;
            set = people;
            Arrays.fill(worth, 0, parish.people * WAYS, UNKNOWN);
            for (int p = 0; p < parish.people; p++) {
                lefts[p] = offered(now, p, 0);
                rights[p] = offered(now, p, 1);
            }
            answer = worthFrom(0, 0);
        }

        int goers() {
            return answer & GOER_BITS;
        }

        int leastOil() {
            return (answer / OIL_UNIT) & OIL_BITS;
        }

        /** Which knee somebody of the set has in the first of the best ways, if all of the set go. */
        int kneeChosen(int person, int side) {
            int used = 0;
            for (int p = 0; p < parish.people; p++) {
                if (bit(set, p) == 1) {
                    int l = firstLeft(p, used);
                    int r = firstRight(p, l, used);
                    if (p == person) {
                        int chosen = side == 0 ? l : r;
                        return chosen == NOTHING ? NONE : chosen;
                    }
                    used |= kneeBits(l, r);
                }
            }
            return NONE;
        }

        private int firstLeft(int p, int used) {
            for (int l = 0; l < NOTHING; l++) {
                if (firstRight(p, l, used) != UNKNOWN) {
                    return l;
                }
            }
            return NOTHING;
        }

        /** The lowest right knee that goes best with a left one; UNKNOWN if there is none. */
        private int firstRight(int p, int l, int used) {
            int best = worthFrom(p, used);
            for (int r = 0; r <= NOTHING; r++) {
                if (mayHave(p, l, r, used) && worthWith(p, l, r, used) == best) {
                    return r;
                }
            }
            return UNKNOWN;
        }

        private int offered(Now now, int p, int side) {
            if (!parish.needsSide(p, side)) {
                return 1 << NOTHING;
            }
            int knees = 0;
            for (int k = 0; k < parish.knees; k++) {
                if (parish.side[k] == side && now.offers(parish, k, p)) {
                    knees |= 1 << k;
                }
            }
            return knees;
        }

        private int worthFrom(int p, int used) {
            if (p >= parish.people) {
                return 0;
            }
            int place = p * WAYS + used;
            if (worth[place] == UNKNOWN) {
                worth[place] = bit(set, p) == 1 ? leastWorth(p, used) : worthFrom(p + 1, used);
            }
            return worth[place];
        }

        private int leastWorth(int p, int used) {
            int least = STAYS + worthFrom(p + 1, used);
            for (int l = 0; l <= NOTHING; l++) {
                if (bit(lefts[p] & ~used, l) == 1) {
                    for (int r = 0; r <= NOTHING; r++) {
                        if (mayHave(p, l, r, used)) {
                            least = Math.min(least, worthWith(p, l, r, used));
                        }
                    }
                }
            }
            return least;
        }

        private boolean mayHave(int p, int l, int r, int used) {
            if (bit(lefts[p] & ~used, l) == 0 || bit(rights[p] & ~used, r) == 0) {
                return false;
            }
            return l == NOTHING || r == NOTHING || parish.speak(l, r);
        }

        private int worthWith(int p, int l, int r, int used) {
            int oil = oilOf(l) + oilOf(r);
            return oil * OIL_UNIT + (1 << p) + worthFrom(p + 1, used | kneeBits(l, r));
        }

        private int oilOf(int k) {
            return k == NOTHING ? 0 : parish.oil[parish.farm[k]];
        }

        private static int kneeBits(int l, int r) {
            return ((1 << l) | (1 << r)) & (WAYS - 1);
        }
    }
}
