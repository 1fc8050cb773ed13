import java.util.Random;

/** Long runs of mixed calls, each answer against that of PlainKnees; the whole state is compared now and then. */
public final class AgainstPlainTest {
    private static final int RUNS = 500, CALLS = 512;
    private final Random random;
    private final int run;
    private KneesLent x = new KneesLent();
    private PlainKnees y = new PlainKnees();
    private int calls = 0;
    private int knees = 0;
    private int people = 0;

    private AgainstPlainTest(int run) {
        this.run = run;
        this.random = new Random(run);
    }

    private void same(String call, long got, long want) {
        calls++;
        Due.due("run " + run + ", call " + calls + ", " + call, got, want);
    }

    private int upTo(int most) {
        return random.nextInt(most + 1);
    }

    /** A number mostly within 0 .. most, now and then just or far beyond. */
    private int about(int most) {
        int dice = random.nextInt(60);
        if (dice == 0) {
            return -1;
        }
        if (dice == 1) {
            return most + 1;
        }
        if (dice == 2) {
            int[] far = {Integer.MIN_VALUE, Integer.MAX_VALUE, -9, 31, 32, 64, 512, 1 << 20};
            return far[random.nextInt(far.length)];
        }
        return most < 0 ? 0 : random.nextInt(most + 1);
    }

    private String item() {
        String gap = random.nextInt(4) == 0 ? " " : "";
        switch (random.nextInt(7)) {
            case 0: case 1: case 2:
                return "k" + gap + upTo(1) + " " + upTo(4) + " " + (1 + upTo(random.nextBoolean() ? 59 : 15)) + gap + ";";
            case 3: case 4:
                return "p" + gap + (random.nextBoolean() ? 3 : 1 + upTo(2)) + " " + upTo(random.nextInt(21)) + " " + upTo(random.nextInt(10)) + gap + ";";
            case 5:
                int a = upTo(4);
                return "x" + gap + a + " " + (a + 1 + upTo(3)) % 5 + ";" + gap;
            default:
                return "o" + gap + upTo(4) + " " + upTo(random.nextBoolean() ? 9 : 2) + ";";
        }
    }

    private String someText() {
        StringBuilder text = new StringBuilder();
        int items = random.nextInt(26);
        int k = 0;
        int p = 0;
        for (int i = 0; i < items; i++) {
            String item = item();
            k += item.startsWith("k") ? 1 : 0;
            p += item.startsWith("p") ? 1 : 0;
            boolean tooMany = item.startsWith("k") && k > 9 || item.startsWith("p") && p > 6;
            if ((!tooMany || random.nextInt(30) == 0) && text.length() + item.length() <= 180) {
                text.append(item);
            }
        }
        return random.nextInt(4) == 0 ? spoilt(text) : text.toString();
    }

    private String spoilt(StringBuilder text) {
        String signs = "kpxo; 0123456789a\t\0\u00e9K:/";
        for (int n = random.nextInt(3); n >= 0 && text.length() > 0; n--) {
            int at = random.nextInt(text.length());
            char sign = signs.charAt(random.nextInt(signs.length()));
            switch (random.nextInt(4)) {
                case 0 -> text.setCharAt(at, sign);
                case 1 -> text.insert(at, sign);
                case 2 -> text.deleteCharAt(at);
                default -> text.setLength(at);
            }
        }
        return text.toString();
    }

    private void readText() {
        String text = someText();
        if (random.nextInt(3) > 0) {
            same("clear()", x.clear(), y.clear());
        }
        for (int i = 0; i < text.length(); i++) {
            same("type", x.type(text.charAt(i)), y.type(text.charAt(i)));
        }
        same("parish() of '" + text + "'", x.parish(), y.parish());
        knees = y.count(0);
        people = y.count(1);
    }

    private void deed() {
        int k = about(knees - 1);
        int p = about(people - 1);
        int u = about(random.nextBoolean() ? 20 : 4);
        int d = about(random.nextBoolean() ? 20 : 2);
        int is = about(1);
        switch (random.nextInt(13)) {
            case 0: case 1: case 2: case 3: case 4: case 5:
                same("lends " + k + " " + p, x.lends(k, p), y.lends(k, p));
                break;
            case 6: case 7:
                same("walks " + p + " " + u + " " + d, x.walks(p, u, d), y.walks(p, u, d));
                break;
            case 8:
                same("brings " + k, x.brings(k), y.brings(k));
                break;
            case 9:
                same("pledges " + k + " " + is, x.pledges(k, is), y.pledges(k, is));
                break;
            case 10:
                same("bell", x.bell(), y.bell());
                break;
            default:
                same("undo", x.undo(), y.undo());
                break;
        }
    }

    private void question() {
        int k = about(knees - 1);
        int p = about(people - 1);
        int set = about((1 << people) - 1);
        int what = about(2);
        int side = about(1);
        switch (random.nextInt(11)) {
            case 0 -> same("canGo " + k + " " + p, x.canGo(k, p), y.canGo(k, p));
            case 1 -> same("lending " + set, x.lending(set), y.lending(set));
            case 2, 3 -> same("kneeFor " + set + " " + p + " " + side, x.kneeFor(set, p, side), y.kneeFor(set, p, side));
            case 4 -> same("most " + what, x.most(what), y.most(what));
            case 5 -> same("span " + k + " " + p, x.span(k, p), y.span(k, p));
            case 6 -> givesOf(k);
            case 7 -> same("rain " + what, x.rain(what), y.rain(what));
            case 8 -> same("downhill " + side, x.downhill(side), y.downhill(side));
            case 9 -> {
                int kind = about(5);
                same("rate " + kind + " " + k, x.rate(kind, k), y.rate(kind, k));
            }
            default -> look();
        }
    }

    private void look() {
        int k = about(knees - 1);
        int p = about(people - 1);
        int f = about(4);
        int what = about(5);
        switch (random.nextInt(6)) {
            case 0 -> same("knee " + k + " " + what, x.knee(k, what), y.knee(k, what));
            case 1 -> same("person " + p + " " + what, x.person(p, what), y.person(p, what));
            case 2 -> same("farm " + f + " " + what, x.farm(f, what), y.farm(f, what));
            case 3 -> same("now", x.now(what), y.now(what));
            case 4 -> same("count " + what, x.count(what), y.count(what));
            default -> same("trace", x.trace(), y.trace());
        }
    }

    private void givesOf(int k) {
        int n = about(6);
        int a = about(30);
        int b = about(random.nextBoolean() ? 30 : 5);
        int c = about(10);
        int what = about(1);
        same("gives " + k + " " + n + " " + a + " " + b + " " + c + " " + what,
            x.gives(k, n, a, b, c, what), y.gives(k, n, a, b, c, what));
    }

    private void hear() {
        int p = about(people - 1);
        int n = about(40);
        int w = random.nextBoolean() ? about(80) : n + about(3);
        int f = about(4);
        int is = about(1);
        switch (random.nextInt(9)) {
            case 0, 1, 2 -> same("tells " + p + " " + n + " " + w, x.tells(p, n, w), y.tells(p, n, w));
            case 3, 4, 5 -> same("felt " + f + " " + is, x.felt(f, is), y.felt(f, is));
            case 6 -> same("forget", x.forget(), y.forget());
            case 7 -> same("keep " + is, x.keep(is), y.keep(is));
            default -> same("back " + is, x.back(is), y.back(is));
        }
    }

    private void compareAll() {
        for (int what = 0; what <= 7; what++) {
            same("now(" + what + ")", x.now(what), y.now(what));
        }
        for (int k = 0; k < knees; k++) {
            for (int what = 0; what <= 4; what++) {
                same("knee(" + k + ", " + what + ")", x.knee(k, what), y.knee(k, what));
            }
        }
        for (int p = 0; p < people; p++) {
            for (int what = 0; what <= 5; what++) {
                same("person(" + p + ", " + what + ")", x.person(p, what), y.person(p, what));
            }
        }
        for (int f = 0; f < 5; f++) {
            for (int what = 0; what <= 3; what++) {
                same("farm(" + f + ", " + what + ")", x.farm(f, what), y.farm(f, what));
            }
        }
        for (int what = 0; what <= 4; what++) {
            same("count(" + what + ")", x.count(what), y.count(what));
        }
        for (int what = 0; what <= 2; what++) {
            same("most(" + what + ")", x.most(what), y.most(what));
            same("rain(" + what + ")", x.rain(what), y.rain(what));
        }
        same("trace()", x.trace(), y.trace());
    }

    private void play() {
        compareAll();
        readText();
        compareAll();
        while (calls < CALLS - 190) {
            int dice = random.nextInt(100);
            if (dice < 45) {
                deed();
            } else if (dice < 85) {
                question();
            } else if (dice < 97) {
                hear();
            } else if (dice == 97) {
                readText();
            } else {
                int letter = about(255);
                same("type " + letter, x.type(letter), y.type(letter));
            }
        }
        compareAll();
    }

    public static void main(String[] args) {
        for (int run = 0; run < RUNS; run++) {
            new AgainstPlainTest(run).play();
        }
        Due.end();
    }
}
