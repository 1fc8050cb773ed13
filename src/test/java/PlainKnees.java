import java.math.BigInteger;
import java.util.ArrayList;
import java.util.List;
import java.util.regex.Matcher;
import java.util.regex.Pattern;

/** The document once more, in its plainest form: every way is tried out, nothing is kept that can be found again. */
final class PlainKnees {
    static final int BAD = -1, STATE = -2, FULL = -3, NONE = -9, NO = -1000000;

    record Knee(int side, int farm, int steps) { }

    record Person(int needs, int up, int down) {
        int wear() {
            return up + down + down;
        }

        boolean needs(int side) {
            return needs == 3 || needs == side + 1;
        }
    }

    record Told(int p, int n, int w) { }

    record Felt(int f, int is) { }

    /** What images and undoing know. */
    static final class Things {
        int day;
        int oil;
        int fines;
        int gave;
        List<Integer> holders = new ArrayList<>();
        List<Integer> left = new ArrayList<>();
        List<Boolean> pledged = new ArrayList<>();

        Things copy() {
            Things other = new Things();
            other.day = day;
            other.oil = oil;
            other.fines = fines;
            other.gave = gave;
            other.holders.addAll(holders);
            other.left.addAll(left);
            other.pledged.addAll(pledged);
            return other;
        }
    }

    private String text = "";
    private List<Knee> knees = new ArrayList<>();
    private List<Person> people = new ArrayList<>();
    private boolean[][] feud = new boolean[5][5];
    private int[] oilOf = {1, 1, 1, 1, 1};
    private Things things = new Things();
    private final List<Things> past = new ArrayList<>();
    private final List<Told> told = new ArrayList<>();
    private final List<Felt> felt = new ArrayList<>();
    private final Things[] images = new Things[2];
    private long trace = 0;

    private static boolean in(int n, int a, int b) {
        return a <= n && n <= b;
    }

    private boolean isKnee(int k) {
        return in(k, 0, knees.size() - 1);
    }

    private boolean isPerson(int p) {
        return in(p, 0, people.size() - 1);
    }

    int type(int letter) {
        if (!in(letter, 0, 255)) {
            return BAD;
        }
        if (text.length() == 180) {
            return FULL;
        }
        text += (char) letter;
        return text.length();
    }

    int clear() {
        int n = text.length();
        text = "";
        return n;
    }

    private static final Pattern TOKEN = Pattern.compile("[0-9]+|[^ 0-9]", Pattern.DOTALL);
    private static final String[] SHAPES = {"k 0-1 0-4 1-60 ;", "p 1-3 0-20 0-20 ;", "x 0-4 0-4 ;", "o 0-4 0-9 ;"};

    int parish() {
        List<String> tokens = new ArrayList<>();
        List<Integer> places = new ArrayList<>();
        Matcher m = TOKEN.matcher(text);
        while (m.find()) {
            tokens.add(m.group());
            places.add(m.start());
        }
        List<Knee> newKnees = new ArrayList<>();
        List<Person> newPeople = new ArrayList<>();
        boolean[][] newFeud = new boolean[5][5];
        int[] newOil = {1, 1, 1, 1, 1};
        int items = 0;
        int i = 0;
        while (i < tokens.size()) {
            String[] shape = null;
            for (String s : SHAPES) {
                if (s.startsWith(tokens.get(i))) {
                    shape = s.split(" ");
                }
            }
            boolean full = tokens.get(i).equals("k") && newKnees.size() == 9
                || tokens.get(i).equals("p") && newPeople.size() == 6;
            if (shape == null || full) {
                return -10 - places.get(i);
            }
            int[] n = new int[3];
            for (int j = 1; j < shape.length; j++) {
                if (i + j >= tokens.size()) {
                    return -10 - text.length();
                }
                String t = tokens.get(i + j);
                boolean fits;
                if (shape[j].equals(";")) {
                    fits = t.equals(";");
                } else {
                    String[] ends = shape[j].split("-");
                    fits = t.matches("0|[1-9][0-9]?") && in(Integer.parseInt(t), Integer.parseInt(ends[0]), Integer.parseInt(ends[1]));
                    if (fits) {
                        n[j - 1] = Integer.parseInt(t);
                        fits = !(shape[0].equals("x") && j == 2 && n[0] == n[1]);
                    }
                }
                if (!fits) {
                    return -10 - places.get(i + j);
                }
            }
            switch (shape[0]) {
                case "k" -> newKnees.add(new Knee(n[0], n[1], n[2]));
                case "p" -> newPeople.add(new Person(n[0], n[1], n[2]));
                case "x" -> {
                    newFeud[n[0]][n[1]] = true;
                    newFeud[n[1]][n[0]] = true;
                }
                default -> newOil[n[0]] = n[1];
            }
            items++;
            i += shape.length;
        }
        knees = newKnees;
        people = newPeople;
        feud = newFeud;
        oilOf = newOil;
        text = "";
        things = new Things();
        for (Knee k : knees) {
            things.holders.add(NONE);
            things.left.add(k.steps);
            things.pledged.add(false);
        }
        past.clear();
        told.clear();
        felt.clear();
        images[0] = null;
        images[1] = null;
        return items;
    }

    int knee(int k, int what) {
        if (!isKnee(k) || !in(what, 0, 4)) {
            return BAD;
        }
        Knee knee = knees.get(k);
        int[] all = {knee.side, knee.farm, things.left.get(k), things.holders.get(k), things.pledged.get(k) ? 1 : 0};
        return all[what];
    }

    private int has(int p, int side) {
        for (int k = 0; k < knees.size(); k++) {
            if (things.holders.get(k) == p && knees.get(k).side == side) {
                return k;
            }
        }
        return NONE;
    }

    private boolean ready(int p) {
        int n = people.get(p).needs;
        return (n == 2 || has(p, 0) != NONE) && (n == 1 || has(p, 1) != NONE);
    }

    int person(int p, int what) {
        if (!isPerson(p) || !in(what, 0, 5)) {
            return BAD;
        }
        Person q = people.get(p);
        int[] all = {q.needs, q.up, q.down, has(p, 0), has(p, 1), ready(p) ? 1 : 0};
        return all[what];
    }

    private boolean owns(int f) {
        return knees.stream().anyMatch(k -> k.farm == f);
    }

    /** All seatings in order, farms that own no knees at NONE: the first with fewest tables. */
    private int[] seating() {
        for (int tables = 0; tables <= 5; tables++) {
            for (int code = 0; code < 3125; code++) {
                int[] at = {code / 625, code / 125 % 5, code / 25 % 5, code / 5 % 5, code % 5};
                boolean good = true;
                for (int f = 0; f < 5; f++) {
                    if (owns(f)) {
                        good &= at[f] < tables;
                        for (int g = 0; g < f; g++) {
                            good &= !(owns(g) && feud[f][g] && at[f] == at[g]);
                        }
                    } else {
                        good &= at[f] == 0;
                        at[f] = NONE;
                    }
                }
                if (good) {
                    return new int[] {at[0], at[1], at[2], at[3], at[4], tables};
                }
            }
        }
        throw new IllegalStateException();
    }

    int farm(int f, int what) {
        if (!in(f, 0, 4) || !in(what, 0, 3)) {
            return BAD;
        }
        int foes = 0;
        for (int g = 0; g < 5; g++) {
            foes += feud[f][g] ? 1 << g : 0;
        }
        int own = 0;
        for (int k = 0; k < knees.size(); k++) {
            own += knees.get(k).farm == f ? 1 << k : 0;
        }
        int[] all = {oilOf[f], foes, own};
        return what == 3 ? seating()[f] : all[what];
    }

    int now(int what) {
        if (!in(what, 0, 7)) {
            return BAD;
        }
        int home = 0;
        int rest = NONE;
        int fewest = 1000;
        for (int k = 0; k < knees.size(); k++) {
            if (things.holders.get(k) == NONE) {
                home += 1 << k;
                if (!things.pledged.get(k) && things.left.get(k) < fewest) {
                    rest = k;
                    fewest = things.left.get(k);
                }
            }
        }
        int[] all = {things.day, home, things.oil, things.fines, things.gave, rest, NONE, past.size()};
        return what == 6 ? seating()[5] : all[what];
    }

    private void remember() {
        past.add(things.copy());
        if (past.size() > 10) {
            past.remove(0);
        }
    }

    int lends(int k, int p) {
        if (!isKnee(k) || !isPerson(p)) {
            return BAD;
        }
        Knee knee = knees.get(k);
        if (things.holders.get(k) != NONE || things.pledged.get(k) || things.left.get(k) <= 0) {
            return STATE;
        }
        if (!people.get(p).needs(knee.side) || has(p, knee.side) != NONE) {
            return STATE;
        }
        for (int j = 0; j < knees.size(); j++) {
            if (things.holders.get(j) == p && feud[knees.get(j).farm][knee.farm]) {
                return STATE;
            }
        }
        remember();
        things.holders.set(k, p);
        things.oil = Math.min(99999, things.oil + oilOf[knee.farm]);
        return things.oil;
    }

    int walks(int p, int u, int d) {
        if (!isPerson(p) || !in(u, 0, 20) || !in(d, 0, 20)) {
            return BAD;
        }
        if (!ready(p)) {
            return STATE;
        }
        remember();
        int gave = 0;
        for (int k = 0; k < knees.size(); k++) {
            if (things.holders.get(k) == p) {
                int left = things.left.get(k) - u - 2 * d;
                gave += left < 0 ? 1 : 0;
                things.left.set(k, Math.max(0, left));
            }
        }
        things.gave = Math.min(999, things.gave + gave);
        return gave;
    }

    int brings(int k) {
        if (!isKnee(k)) {
            return BAD;
        }
        if (things.holders.get(k) == NONE) {
            return STATE;
        }
        remember();
        return things.holders.set(k, NONE);
    }

    int pledges(int k, int is) {
        if (!isKnee(k) || !in(is, 0, 1)) {
            return BAD;
        }
        if (things.pledged.get(k) == (is == 1) || things.holders.get(k) != NONE) {
            return STATE;
        }
        remember();
        things.pledged.set(k, is == 1);
        return (int) things.pledged.stream().filter(b -> b).count();
    }

    int bell() {
        if (things.day == 999) {
            return STATE;
        }
        remember();
        int lent = (int) things.holders.stream().filter(h -> h != NONE).count();
        things.day++;
        things.fines = Math.min(9999, things.fines + lent);
        return lent;
    }

    int undo() {
        if (past.isEmpty()) {
            return STATE;
        }
        things = past.remove(past.size() - 1);
        return past.size();
    }

    int canGo(int k, int p) {
        if (!isKnee(k) || !isPerson(p)) {
            return BAD;
        }
        boolean free = things.holders.get(k) == NONE && !things.pledged.get(k);
        Person q = people.get(p);
        return free && q.needs(knees.get(k).side) && things.left.get(k) >= q.wear() ? 1 : 0;
    }

    /** The first of the best ways for a set: knees of each person, left and right; null if there is none. */
    private int[] bestWay(int set) {
        Search search = new Search();
        search.tryOut(set, 0, new int[12], 0);
        return search.best;
    }

    private final class Search {
        int[] best = null;
        int bestOil = Integer.MAX_VALUE;

        void tryOut(int set, int slot, int[] way, int oil) {
            if (oil >= bestOil) {
                return;
            }
            if (slot == 12) {
                best = way.clone();
                bestOil = oil;
                return;
            }
            int p = slot / 2;
            int side = slot % 2;
            if ((set >> p & 1) == 0 || !people.get(p).needs(side)) {
                way[slot] = NONE;
                tryOut(set, slot + 1, way, oil);
                return;
            }
            for (int k = 0; k < knees.size(); k++) {
                if (knees.get(k).side == side && canGo(k, p) == 1 && !isIn(way, slot, k)) {
                    boolean foes = side == 1 && way[slot - 1] != NONE && feud[knees.get(way[slot - 1]).farm][knees.get(k).farm];
                    if (!foes) {
                        way[slot] = k;
                        tryOut(set, slot + 1, way, oil + oilOf[knees.get(k).farm]);
                    }
                }
            }
        }

        private boolean isIn(int[] way, int slots, int k) {
            for (int s = 0; s < slots; s++) {
                if (way[s] == k) {
                    return true;
                }
            }
            return false;
        }
    }

    private boolean isSet(int set) {
        return in(set, 0, (1 << people.size()) - 1);
    }

    int lending(int set) {
        if (!isSet(set)) {
            return BAD;
        }
        int[] way = bestWay(set);
        if (way == null) {
            return NONE;
        }
        int oil = 0;
        for (int k : way) {
            oil += k == NONE ? 0 : oilOf[knees.get(k).farm];
        }
        return oil;
    }

    int kneeFor(int set, int p, int side) {
        if (!isSet(set) || !isPerson(p) || !in(side, 0, 1) || (set >> p & 1) == 0) {
            return BAD;
        }
        int[] way = bestWay(set);
        return way == null ? NONE : way[2 * p + side];
    }

    int most(int what) {
        if (!in(what, 0, 2)) {
            return BAD;
        }
        int[] best = {0, 0, 0};
        for (int set = 0; set < 1 << people.size(); set++) {
            int oil = lending(set);
            int many = Integer.bitCount(set);
            if (oil != NONE && (many > best[1] || many == best[1] && oil < best[2])) {
                best = new int[] {set, many, oil};
            }
        }
        return best[what];
    }

    int span(int k, int p) {
        if (!isKnee(k) || !isPerson(p)) {
            return BAD;
        }
        int wear = people.get(p).wear();
        if (wear == 0) {
            return NONE;
        }
        int times = 0;
        while ((times + 1) * wear <= things.left.get(k)) {
            times++;
        }
        return times;
    }

    int gives(int k, int n, int a, int b, int x, int what) {
        if (!isKnee(k) || !in(n, 0, 6) || !in(a, 0, 30) || !in(b, 0, 30) || !in(x, 0, 10) || !in(what, 0, 1)) {
            return BAD;
        }
        BigInteger upper = BigInteger.ZERO;
        for (int days = 0; days < 1 << n; days++) {
            int wear = 0;
            long ways = 1;
            for (int day = 0; day < n; day++) {
                boolean isA = (days >> day & 1) == 1;
                wear += isA ? a : b;
                ways *= isA ? x : 10 - x;
            }
            if (wear > things.left.get(k)) {
                upper = upper.add(BigInteger.valueOf(ways));
            }
        }
        BigInteger lower = BigInteger.TEN.pow(n);
        BigInteger common = upper.gcd(lower);
        return (what == 0 ? upper : lower).divide(common).intValueExact();
    }

    int tells(int p, int n, int w) {
        if (!isPerson(p) || !in(n, 0, 40) || !in(w, 0, 80)) {
            return BAD;
        }
        if (told.size() == 6) {
            return FULL;
        }
        told.add(new Told(p, n, w));
        return told.size();
    }

    int downhill(int what) {
        if (!in(what, 0, 1)) {
            return BAD;
        }
        int bits = 0;
        for (Told t : told) {
            boolean canBe = false;
            boolean wentDown = false;
            for (int down = 0; down <= t.n; down++) {
                if (t.n - down + 2 * down == t.w) {
                    canBe = true;
                    wentDown = down > 0;
                }
            }
            if (what == 0 ? wentDown : !canBe) {
                bits |= 1 << t.p;
            }
        }
        return bits;
    }

    int felt(int f, int is) {
        if (!in(f, 0, 4) || !in(is, 0, 1)) {
            return BAD;
        }
        if (felt.size() == 5) {
            return FULL;
        }
        felt.add(new Felt(f, is));
        return felt.size();
    }

    private boolean feels(int f, int set) {
        for (int p = 0; p < people.size(); p++) {
            for (int k = 0; k < knees.size(); k++) {
                if ((set >> p & 1) == 1 && things.holders.get(k) == p && knees.get(k).farm == f) {
                    return true;
                }
            }
        }
        return false;
    }

    int rain(int what) {
        if (!in(what, 0, 2)) {
            return BAD;
        }
        List<Integer> sets = new ArrayList<>();
        for (int set = 0; set < 1 << people.size(); set++) {
            boolean canBe = true;
            for (Felt one : felt) {
                canBe &= feels(one.f, set) == (one.is == 1);
            }
            if (canBe) {
                sets.add(set);
            }
        }
        if (what == 0) {
            return sets.size();
        }
        if (what == 1) {
            return sets.stream().reduce((a, b) -> a & b).orElse(NONE);
        }
        return sets.stream().map(Integer::bitCount).min(Integer::compare).orElse(NONE);
    }

    int forget() {
        int both = told.size() + felt.size();
        told.clear();
        felt.clear();
        return both;
    }

    int rate(int kind, int k) {
        if (!in(kind, 0, 5) || !isKnee(k)) {
            return NO;
        }
        int left = things.left.get(k);
        int worn = knees.get(k).steps - left;
        int oil = oilOf[knees.get(k).farm];
        int[] answers = {left, left + oil, left - worn, 2 * (left + oil), left - worn + k, left + things.fines};
        int[] traces = {1, 11, 101, 1011, 10101, 100001};
        trace += traces[kind];
        return answers[kind];
    }

    int keep(int image) {
        if (!in(image, 0, 1)) {
            return BAD;
        }
        images[image] = things.copy();
        return things.day;
    }

    int back(int image) {
        if (!in(image, 0, 1)) {
            return BAD;
        }
        if (images[image] == null) {
            return STATE;
        }
        things = images[image].copy();
        past.clear();
        return things.day;
    }

    int count(int what) {
        if (!in(what, 0, 4)) {
            return BAD;
        }
        int[] all = {knees.size(), people.size(), told.size(), felt.size(), text.length()};
        return all[what];
    }

    long trace() {
        return trace;
    }
}
