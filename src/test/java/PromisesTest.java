/** Each promise of the document by itself: ordinary inputs, the edges that it names, wrong inputs. */
public final class PromisesTest {
    private static final int BAD = -1, STATE = -2, FULL = -3, NONE = -9, NO = -1000000;
    private static final int[] WRONG = {Integer.MIN_VALUE, -1000, -1, Integer.MAX_VALUE};
    // Two pairs of knees of farms 0 and 1, a right one of farm 2; a pair, a left, a right; 0 and 1 do not speak.
    private static final String SMALL = "k0 0 30;k1 0 20;k0 1 12;k1 1 40;k1 2 9;p3 4 3;p1 2 2;p2 1 0;x0 1;o1 5;o2 0;";

    private PromisesTest() {
    }

    private static void due(String call, long got, long want) {
        Due.due(call, got, want);
    }

    private static KneesLent small() {
        return Due.read(SMALL);
    }

    private static int readIn(KneesLent x, String text) {
        x.clear();
        Due.typeAll(x, text);
        return x.parish();
    }

    /** All that can be seen of how things are, to find whether a refused call changed any of it. */
    private static String look(KneesLent x) {
        StringBuilder seen = new StringBuilder();
        for (int what = 0; what < 8; what++) {
            seen.append(x.now(what)).append(' ');
        }
        for (int i = 0; i < 9; i++) {
            for (int what = 0; what < 6; what++) {
                seen.append(x.knee(i, what)).append(' ').append(x.person(i, what)).append(' ').append(x.farm(i, what)).append(' ');
            }
        }
        for (int what = 0; what < 5; what++) {
            seen.append(x.count(what)).append(' ').append(x.downhill(what)).append(' ').append(x.rain(what)).append(' ');
        }
        return seen.append(x.trace()).toString();
    }

    private static void unchanged(String call, String before, KneesLent x) {
        due("nothing changes by " + call + ":\n" + before + "\n" + look(x) + "\n", before.equals(look(x)) ? 1 : 0, 1);
    }

    private static void newObject() {
        Due.about("promise 1");
        KneesLent x = new KneesLent();
        int[] nows = {0, 0, 0, 0, 0, NONE, 0, 0};
        for (int what = 0; what < nows.length; what++) {
            due("now(" + what + ")", x.now(what), nows[what]);
        }
        for (int what = 0; what < 5; what++) {
            due("count(" + what + ")", x.count(what), 0);
        }
        for (int f = 0; f < 5; f++) {
            due("farm(f, 0)", x.farm(f, 0), 1);
            due("farm(f, 1)", x.farm(f, 1), 0);
            due("farm(f, 2)", x.farm(f, 2), 0);
            due("farm(f, 3)", x.farm(f, 3), NONE);
        }
        due("knee(0, 0)", x.knee(0, 0), BAD);
        due("person(0, 0)", x.person(0, 0), BAD);
        due("trace()", x.trace(), 0);
        due("downhill(0)", x.downhill(0), 0);
        due("downhill(1)", x.downhill(1), 0);
        due("undo()", x.undo(), STATE);
        due("back(0)", x.back(0), STATE);
        due("lends(0, 0)", x.lends(0, 0), BAD);
        due("rate(0, 0)", x.rate(0, 0), NO);
        due("bell()", x.bell(), 0);
    }

    private static void type() {
        Due.about("promise 2");
        KneesLent x = new KneesLent();
        due("type(0)", x.type(0), 1);
        due("type(255)", x.type(255), 2);
        due("type(-1)", x.type(-1), BAD);
        due("type(256)", x.type(256), BAD);
        for (int letters = 3; letters <= 180; letters++) {
            due("type(32)", x.type(32), letters);
        }
        due("type(32) of 181", x.type(32), FULL);
        due("type(256) of 181", x.type(256), BAD);
        due("count(4)", x.count(4), 180);
    }

    private static void clear() {
        Due.about("promise 3");
        KneesLent x = new KneesLent();
        due("clear()", x.clear(), 0);
        Due.typeAll(x, "k0 0 1;");
        due("clear()", x.clear(), 7);
        due("clear()", x.clear(), 0);
        due("parish() of no letters", x.parish(), 0);
        due("count(0)", x.count(0), 0);
    }

    private static void fault(String text, int place) {
        KneesLent x = small();
        x.lends(0, 0);
        x.rate(1, 1);
        Due.typeAll(x, text);
        String before = look(x);
        due("parish() of '" + text + "'", x.parish(), -10 - place);
        unchanged("parish() of '" + text + "'", before, x);
        due("clear() behind a fault", x.clear(), text.length());
    }

    private static void parishFaults() {
        Due.about("promise 4, faults");
        fault(";", 0);
        fault("  7", 2);
        fault("k", 1);
        fault("k0 0 1", 6);
        fault("k0 0 1  ", 8);
        fault("k0 0 1;k", 8);
        fault("k0 0 1;;", 7);
        fault("k2 0 1;", 1);
        fault("k0 5 1;", 3);
        fault("k0 0 0;", 5);
        fault("k0 0 61;", 5);
        fault("k0 0 1 1;", 7);
        fault("k0 0;", 4);
        fault("k0 00 1;", 3);
        fault("k0 01 1;", 3);
        fault("k0 0 100;", 5);
        fault("k0 0 4294967297;", 5);
        fault("k0 0 99999999999999999999;", 5);
        fault("k0 0 09;", 5);
        fault("k0 0 1k;", 6);
        fault("kk", 1);
        fault("k0 -1 1;", 3);
        fault("K0 0 1;", 0);
        fault("k0 0 1;\t", 7);
        fault("k0 0 1;\u00e9", 7);
        fault("k0 0 1;\0", 7);
        fault("k0 0 1;\u00ff", 7);
        fault("\u00ffk0 0 1;", 0);
        fault(" ".repeat(180).substring(7) + "k0 0 1?", 179);
        fault(" ".repeat(180).substring(6) + "k0 0 1", 180);
        fault("k0 0 1" + " ".repeat(174), 180);
        fault("k0 5 1;?", 3);
        fault("k0 ? 99;", 3);
        fault("p0 0 0;", 1);
        fault("p4 0 0;", 1);
        fault("p1 21 0;", 3);
        fault("p1 0 21;", 5);
        fault("p1 0;", 4);
        fault("x0 0;", 3);
        fault("x3 3", 3);
        fault("x5 0;", 1);
        fault("x0 5;", 3);
        fault("x0;", 2);
        fault("x0 1 2;", 5);
        fault("o5 0;", 1);
        fault("o0 10;", 3);
        fault("o0;", 2);
        fault("o0 1 1;", 5);
        fault("k0 0 1;".repeat(10), 63);
        fault("p1 0 0;".repeat(6) + "p", 42);
        fault("p1 0 0;".repeat(6) + " p1 0 0;", 43);
    }

    private static void parishRead() {
        Due.about("promise 4");
        KneesLent x = small();
        due("items", readIn(x, " k 0 1 8 ;p 1 2 1;x 1 0;x 0 1;o 1 3;o1 4;  "), 6);
        due("count(4)", x.count(4), 0);
        due("count(0)", x.count(0), 1);
        due("farm(0, 1)", x.farm(0, 1), 2);
        due("farm(1, 1)", x.farm(1, 1), 1);
        due("farm(1, 0)", x.farm(1, 0), 4);
        due("farm(2, 0), told by the text before", x.farm(2, 0), 1);
        due("nine knees, six people", readIn(x, "k1 4 60;".repeat(9) + "p3 20 20;".repeat(6)), 15);
        due("farm(0, 1), told by the text before", x.farm(0, 1), 0);
        due("knee(8, 2)", x.knee(8, 2), 60);
        due("person(5, 2)", x.person(5, 2), 20);
        due("no letters", x.parish(), 0);
        due("count(0)", x.count(0), 0);
        due("count(1)", x.count(1), 0);
        due("blanks", readIn(x, "     "), 0);
        due("180 letters", readIn(x, "k0 0 1;" + " ".repeat(173)), 1);
        due("tokens close by", readIn(x, "o0 0;x4 0;k0 0 1;"), 3);
    }

    private static void parishAnew() {
        Due.about("promise 4, read anew");
        KneesLent x = small();
        x.lends(0, 0);
        x.lends(1, 0);
        x.walks(0, 20, 20);
        x.pledges(4, 1);
        x.bell();
        x.tells(0, 5, 4);
        x.tells(1, 5, 6);
        x.felt(0, 1);
        x.keep(0);
        x.keep(1);
        x.rate(0, 0);
        String before = look(small());
        due("items", readIn(x, SMALL), 11);
        due("trace() is not told by a text", x.trace(), 1);
        due("look", look(x).equals(before.substring(0, before.length() - 1) + 1) ? 1 : 0, 1);
        due("undo()", x.undo(), STATE);
        due("back(0)", x.back(0), STATE);
        due("back(1)", x.back(1), STATE);
        due("downhill(0)", x.downhill(0), 0);
        due("downhill(1)", x.downhill(1), 0);
        due("forget()", x.forget(), 0);
    }

    private static void knee() {
        Due.about("promise 5");
        KneesLent x = small();
        int[][] want = {{0, 0, 30, NONE, 0}, {1, 0, 20, NONE, 0}, {0, 1, 12, NONE, 0}, {1, 1, 40, NONE, 0}, {1, 2, 9, NONE, 0}};
        for (int k = 0; k < 5; k++) {
            for (int what = 0; what < 5; what++) {
                due("knee(" + k + ", " + what + ")", x.knee(k, what), want[k][what]);
            }
        }
        x.lends(2, 1);
        x.walks(1, 1, 2);
        x.pledges(3, 1);
        due("knee(2, 2)", x.knee(2, 2), 7);
        due("knee(2, 3)", x.knee(2, 3), 1);
        due("knee(3, 4)", x.knee(3, 4), 1);
        due("knee(5, 0)", x.knee(5, 0), BAD);
        due("knee(0, 5)", x.knee(0, 5), BAD);
        for (int wrong : WRONG) {
            due("knee(wrong, 0)", x.knee(wrong, 0), BAD);
            due("knee(0, wrong)", x.knee(0, wrong), BAD);
        }
    }

    private static void person() {
        Due.about("promise 6");
        KneesLent x = small();
        int[][] want = {{3, 4, 3, NONE, NONE, 0}, {1, 2, 2, NONE, NONE, 0}, {2, 1, 0, NONE, NONE, 0}};
        for (int p = 0; p < 3; p++) {
            for (int what = 0; what < 6; what++) {
                due("person(" + p + ", " + what + ")", x.person(p, what), want[p][what]);
            }
        }
        x.lends(1, 0);
        due("right one", x.person(0, 4), 1);
        due("not READY by half a pair", x.person(0, 5), 0);
        x.lends(0, 0);
        due("left one", x.person(0, 3), 0);
        due("READY by a pair", x.person(0, 5), 1);
        x.lends(2, 1);
        due("READY by a left", x.person(1, 5), 1);
        due("no right", x.person(1, 4), NONE);
        x.lends(4, 2);
        due("READY by a right", x.person(2, 5), 1);
        due("no left", x.person(2, 3), NONE);
        x.brings(1);
        due("not READY any more", x.person(0, 5), 0);
        due("person(3, 0)", x.person(3, 0), BAD);
        due("person(0, 6)", x.person(0, 6), BAD);
        for (int wrong : WRONG) {
            due("person(wrong, 0)", x.person(wrong, 0), BAD);
            due("person(0, wrong)", x.person(0, wrong), BAD);
        }
    }

    private static void farm() {
        Due.about("promise 7");
        KneesLent x = small();
        int[][] want = {{1, 2, 3, 0}, {5, 1, 12, 1}, {0, 0, 16, 0}, {1, 0, 0, NONE}, {1, 0, 0, NONE}};
        for (int f = 0; f < 5; f++) {
            for (int what = 0; what < 4; what++) {
                due("farm(" + f + ", " + what + ")", x.farm(f, what), want[f][what]);
            }
        }
        due("farm(5, 0)", x.farm(5, 0), BAD);
        due("farm(0, 4)", x.farm(0, 4), BAD);
        for (int wrong : WRONG) {
            due("farm(wrong, 0)", x.farm(wrong, 0), BAD);
            due("farm(0, wrong)", x.farm(0, wrong), BAD);
        }
    }

    private static void seats(String text, int tables, int... at) {
        KneesLent x = Due.read(text);
        due("tables of " + text, x.now(6), tables);
        for (int f = 0; f < 5; f++) {
            due("table of " + f + " of " + text, x.farm(f, 3), at[f]);
        }
    }

    private static void tables() {
        Due.about("promises 7 and 8, tables");
        String all = "k0 0 1;k0 1 1;k0 2 1;k0 3 1;k0 4 1;";
        seats(all, 1, 0, 0, 0, 0, 0);
        seats(all + "x0 1;x0 2;x0 3;x0 4;x1 2;x1 3;x1 4;x2 3;x2 4;x3 4;", 5, 0, 1, 2, 3, 4);
        seats(all + "x0 1;x1 2;x2 3;x3 4;x4 0;", 3, 0, 1, 0, 1, 2);
        // The lowest free table for 1 would be 0, but then 3 tables would be needed.
        seats("k0 0 1;k0 1 1;k0 2 1;k0 3 1;x0 2;x2 3;x3 1;", 2, 0, 1, 1, 0, NONE);
        seats("k0 0 1;k0 1 1;k0 2 1;k0 3 1;x0 3;x3 2;x2 1;", 2, 0, 1, 0, 1, NONE);
        // A farm that owns no knee needs no table, whomever it does not speak with.
        seats("k0 0 1;k0 2 1;x0 1;x1 2;", 1, 0, NONE, 0, NONE, NONE);
        seats("x0 1;", 0, NONE, NONE, NONE, NONE, NONE);
        KneesLent x = Due.read(all + "x0 1;x1 2;x2 0;");
        for (int i = 0; i < 3; i++) {
            due("items", readIn(x, "k0 3 1;k0 1 1;"), 2);
            due("tables, read anew", x.now(6), 1);
            due("table of 0, read anew", x.farm(0, 3), NONE);
            due("table of 1, read anew", x.farm(1, 3), 0);
        }
    }

    private static void now() {
        Due.about("promise 8");
        KneesLent x = small();
        due("at home", x.now(1), 31);
        due("rest", x.now(5), 4);
        x.pledges(4, 1);
        due("at home, in pledge", x.now(1), 31);
        due("rest, not in pledge", x.now(5), 2);
        x.lends(2, 1);
        due("at home, not lent", x.now(1), 27);
        due("rest, not lent", x.now(5), 1);
        due("all oil", x.now(2), 5);
        x.walks(1, 20, 20);
        due("gave", x.now(4), 1);
        x.bell();
        x.bell();
        due("day", x.now(0), 2);
        due("fines", x.now(3), 2);
        due("may be undone", x.now(7), 5);
        due("tables", x.now(6), 2);
        x.brings(2);
        due("rest has no steps left", x.now(5), 2);
        KneesLent twins = Due.read("k1 0 9;k0 0 5;k1 1 5;");
        due("rest, the lowest of several", twins.now(5), 1);
        due("rest, the first knee", Due.read("k1 0 5;k0 0 5;").now(5), 0);
        twins.pledges(0, 1);
        twins.pledges(1, 1);
        twins.pledges(2, 1);
        due("rest, all in pledge", twins.now(5), NONE);
        due("now(8)", x.now(8), BAD);
        for (int wrong : WRONG) {
            due("now(wrong)", x.now(wrong), BAD);
        }
    }

    private static void refusedLend(KneesLent x, int k, int p, int want) {
        String before = look(x);
        due("lends(" + k + ", " + p + ")", x.lends(k, p), want);
        unchanged("lends(" + k + ", " + p + ")", before, x);
    }

    private static void lends() {
        Due.about("promise 9");
        KneesLent x = small();
        refusedLend(x, 5, 0, BAD);
        refusedLend(x, 0, 3, BAD);
        for (int wrong : WRONG) {
            refusedLend(x, wrong, 0, BAD);
            refusedLend(x, 0, wrong, BAD);
        }
        refusedLend(x, 1, 1, STATE);
        refusedLend(x, 0, 2, STATE);
        due("lends(0, 0)", x.lends(0, 0), 1);
        refusedLend(x, 0, 0, STATE);
        refusedLend(x, 0, 1, STATE);
        refusedLend(x, 2, 0, STATE);
        refusedLend(x, 3, 0, STATE);
        due("a farm that speaks", x.lends(4, 0), 1);
        refusedLend(x, 1, 0, STATE);
        due("lends(2, 1)", x.lends(2, 1), 6);
        due("holder", x.knee(2, 3), 1);
        x.pledges(3, 1);
        refusedLend(x, 3, 2, STATE);
        x.pledges(3, 0);
        due("lends(3, 2)", x.lends(3, 2), 11);
        x.walks(1, 12, 0);
        x.brings(2);
        due("nothing left", x.knee(2, 2), 0);
        refusedLend(x, 2, 1, STATE);
        KneesLent worn = Due.read("k0 0 1;p1 20 20;");
        due("lent with fewer steps than he goes", worn.lends(0, 0), 1);
        KneesLent rightFirst = Due.read("k0 0 1;k1 1 1;p3 0 0;x1 0;");
        due("right first", rightFirst.lends(1, 0), 1);
        refusedLend(rightFirst, 0, 0, STATE);
    }

    private static void oilHasAnEnd() {
        Due.about("promise 9, all oil");
        KneesLent x = Due.read("k0 0 1;p1 0 0;o0 9;");
        for (int i = 1; i <= 11200; i++) {
            due("lends", x.lends(0, 0), Math.min(99999, 9 * i));
            x.brings(0);
        }
    }

    private static void walks() {
        Due.about("promise 10");
        KneesLent x = small();
        int[][] bad = {{3, 0, 0}, {-1, 0, 0}, {0, 21, 0}, {0, -1, 0}, {0, 0, 21}, {0, 0, -1}, {1, Integer.MAX_VALUE, 0}, {9, 0, 0}};
        for (int[] b : bad) {
            due("walks BAD", x.walks(b[0], b[1], b[2]), BAD);
        }
        due("not ready", x.walks(0, 0, 0), STATE);
        x.lends(0, 0);
        due("half ready", x.walks(0, 1, 1), STATE);
        due("nothing is to be undone but the lending", x.now(7), 1);
        x.lends(1, 0);
        due("walks(0, 4, 3)", x.walks(0, 4, 3), 0);
        due("left one", x.knee(0, 2), 20);
        due("right one", x.knee(1, 2), 10);
        due("another's", x.knee(2, 2), 12);
        due("all of it", x.walks(0, 0, 5), 0);
        due("nothing left", x.knee(1, 2), 0);
        due("no wear", x.walks(0, 0, 0), 0);
        due("one gives", x.walks(0, 1, 0), 1);
        due("left one", x.knee(0, 2), 9);
        due("both give", x.walks(0, 0, 5), 2);
        due("0 left", x.knee(0, 2), 0);
        due("gave in all", x.now(4), 3);
        due("20, 20", x.walks(0, 20, 20), 2);
    }

    private static void gaveHasAnEnd() {
        Due.about("promise 10, gave");
        KneesLent x = Due.read("k0 0 1;k1 0 1;p3 0 0;");
        x.lends(0, 0);
        x.lends(1, 0);
        for (int i = 1; i <= 510; i++) {
            due("walks", x.walks(0, 2, 0), 2);
            due("now(4)", x.now(4), Math.min(999, 2 * i));
        }
    }

    private static void brings() {
        Due.about("promise 11");
        KneesLent x = small();
        due("brings(5)", x.brings(5), BAD);
        for (int wrong : WRONG) {
            due("brings(wrong)", x.brings(wrong), BAD);
        }
        due("at home", x.brings(0), STATE);
        due("not to be undone", x.now(7), 0);
        x.lends(0, 0);
        x.lends(2, 1);
        due("brings(2)", x.brings(2), 1);
        due("brings(0)", x.brings(0), 0);
        due("home", x.knee(0, 3), NONE);
        due("brings(0) again", x.brings(0), STATE);
        due("oil stays", x.now(2), 6);
    }

    private static void pledges() {
        Due.about("promise 12");
        KneesLent x = small();
        due("pledges(5, 1)", x.pledges(5, 1), BAD);
        due("pledges(0, 2)", x.pledges(0, 2), BAD);
        for (int wrong : WRONG) {
            due("pledges(wrong, 1)", x.pledges(wrong, 1), BAD);
            due("pledges(0, wrong)", x.pledges(0, wrong), BAD);
        }
        due("not in pledge", x.pledges(0, 0), STATE);
        due("pledges(0, 1)", x.pledges(0, 1), 1);
        due("pledges(4, 1)", x.pledges(4, 1), 2);
        due("in pledge", x.pledges(0, 1), STATE);
        due("pledges(0, 0)", x.pledges(0, 0), 1);
        due("pledge of 4", x.knee(4, 4), 1);
        due("pledge of 0", x.knee(0, 4), 0);
        x.lends(0, 0);
        due("lent", x.pledges(0, 1), STATE);
        due("lent, not in pledge", x.pledges(0, 0), STATE);
        due("to be undone", x.now(7), 4);
    }

    private static void bell() {
        Due.about("promise 13");
        KneesLent x = small();
        due("none lent", x.bell(), 0);
        x.lends(0, 0);
        x.lends(2, 1);
        due("two lent", x.bell(), 2);
        x.brings(2);
        due("one lent", x.bell(), 1);
        due("fines", x.now(3), 3);
        due("day", x.now(0), 3);
        for (int day = 4; day <= 999; day++) {
            due("bell()", x.bell(), 1);
        }
        due("day", x.now(0), 999);
        String before = look(x);
        due("bell() on the last day", x.bell(), STATE);
        unchanged("bell()", before, x);
        x.undo();
        due("bell() on the last day but one", x.bell(), 1);
    }

    private static void undo() {
        Due.about("promise 14");
        KneesLent x = small();
        String start = look(x);
        x.lends(0, 0);
        String lent = look(x);
        x.lends(1, 0);
        x.walks(0, 20, 15);
        String walked = look(x);
        x.brings(0);
        x.pledges(0, 1);
        String pledged = look(x);
        x.bell();
        due("refused is not known", x.lends(0, 9), BAD);
        due("refused is not known", x.lends(0, 0), STATE);
        due("bell undone", x.undo(), 5);
        unchanged("bell(), undone", pledged, x);
        due("pledge undone", x.undo(), 4);
        due("bringing undone", x.undo(), 3);
        unchanged("brings(), undone", walked, x);
        due("walk undone", x.undo(), 2);
        due("lending undone", x.undo(), 1);
        unchanged("lends(), undone", lent, x);
        due("first lending undone", x.undo(), 0);
        unchanged("lends(), undone", start, x);
        due("none", x.undo(), STATE);
        for (int i = 1; i <= 25; i++) {
            x.bell();
            due("known", x.now(7), Math.min(10, i));
        }
        x.tells(0, 1, 2);
        x.rate(0, 0);
        for (int i = 9; i >= 0; i--) {
            due("undo()", x.undo(), i);
        }
        due("undo() of the eleventh", x.undo(), STATE);
        due("day", x.now(0), 15);
        due("told stays", x.count(2), 1);
        due("trace stays", x.trace(), 1);
    }

    private static void canGo() {
        Due.about("promise 15");
        KneesLent x = small();
        int[][] want = {{1, 1, 0}, {1, 0, 1}, {1, 1, 0}, {1, 0, 1}, {0, 0, 1}};
        for (int k = 0; k < 5; k++) {
            for (int p = 0; p < 3; p++) {
                due("canGo(" + k + ", " + p + ")", x.canGo(k, p), want[k][p]);
            }
        }
        x.pledges(0, 1);
        due("in pledge", x.canGo(0, 0), 0);
        x.lends(2, 1);
        due("lent", x.canGo(2, 0), 0);
        due("lent to him", x.canGo(2, 1), 0);
        due("whatever he has", x.canGo(1, 0), 1);
        KneesLent edge = Due.read("k0 0 9;k0 0 10;p1 4 3;p1 0 0;");
        due("one too few", edge.canGo(0, 0), 0);
        due("just enough", edge.canGo(1, 0), 1);
        edge.lends(0, 1);
        edge.walks(1, 9, 0);
        edge.brings(0);
        due("nothing left, nothing to go", edge.canGo(0, 1), 1);
        due("canGo(5, 0)", x.canGo(5, 0), BAD);
        due("canGo(0, 3)", x.canGo(0, 3), BAD);
        for (int wrong : WRONG) {
            due("canGo(wrong, 0)", x.canGo(wrong, 0), BAD);
            due("canGo(0, wrong)", x.canGo(0, wrong), BAD);
        }
    }

    private static void lending() {
        Due.about("promise 16");
        KneesLent x = small();
        int[] want = {0, 2, 1, 7, 0, 2, 1, 7};
        for (int set = 0; set < 8; set++) {
            due("lending(" + set + ")", x.lending(set), want[set]);
        }
        due("lending(8)", x.lending(8), BAD);
        for (int wrong : WRONG) {
            due("lending(wrong)", x.lending(wrong), BAD);
        }
        due("nothing is lent", x.now(1), 31);
        x.pledges(0, 1);
        due("the pair of farm 1", x.lending(1), 10);
        due("no second left", x.lending(3), NONE);
        x.lends(2, 1);
        due("the lefts are away", x.lending(2), NONE);
        due("nobody", x.lending(0), 0);
        due("most people, most oil", Due.read("k0 0 60;k0 0 60;k0 0 60;k1 0 60;k1 0 60;k1 0 60;p3 0 0;p3 0 0;p3 0 0;o0 9;").lending(7), 54);
        due("two who do not speak", Due.read("k0 0 9;k1 1 9;p3 0 0;x1 0;").lending(1), NONE);
        due("two of whom one needs both", Due.read("k0 0 9;k1 1 9;p1 0 0;p2 0 0;x1 0;").lending(3), 2);
        due("no people", new KneesLent().lending(1), BAD);
    }

    private static void kneesFor(KneesLent x, int set, int... want) {
        for (int p = 0; p < want.length / 2; p++) {
            due("kneeFor(" + set + ", " + p + ", 0)", x.kneeFor(set, p, 0), want[2 * p]);
            due("kneeFor(" + set + ", " + p + ", 1)", x.kneeFor(set, p, 1), want[2 * p + 1]);
        }
    }

    private static void kneeFor() {
        Due.about("promise 17");
        KneesLent x = small();
        kneesFor(x, 7, 0, 1, 2, NONE, NONE, 4);
        kneesFor(x, 5, 0, 1, BAD, BAD, NONE, 4);
        kneesFor(x, 4, BAD, BAD, BAD, BAD, NONE, 4);
        x.pledges(0, 1);
        kneesFor(x, 3, NONE, NONE, NONE, NONE);
        kneesFor(x, 1, 2, 3);
        // Of equal oil the first: the left one decides ahead of the right one, the first person ahead of the second.
        kneesFor(Due.read("k1 0 9;k1 0 9;k0 0 9;k0 0 9;p3 0 0;p3 0 0;"), 3, 2, 0, 3, 1);
        kneesFor(Due.read("k0 0 9;k0 1 9;k1 1 9;k1 0 9;p3 0 0;p3 0 0;x0 1;"), 3, 0, 3, 1, 2);
        kneesFor(Due.read("k0 0 5;k0 0 9;k0 0 9;p1 0 0;p1 9 0;"), 3, 0, NONE, 1, NONE);
        kneesFor(Due.read("k0 0 9;k0 1 9;k0 2 9;p1 0 0;p1 9 0;o0 3;o1 2;"), 3, 1, NONE, 2, NONE);
        kneesFor(Due.read("k0 0 9;k0 1 5;p1 0 0;p1 9 0;"), 3, 1, NONE, 0, NONE);
        kneesFor(Due.read("k0 0 9;k0 0 9;k0 0 9;k0 0 9;k1 0 9;p1 0 0;p1 0 0;p3 0 0;p1 0 0;"), 15, 0, NONE, 1, NONE, 2, 4, 3, NONE);
        int[][] bad = {{8, 0, 0}, {-1, 0, 0}, {1, 1, 0}, {1, 0, 2}, {1, 0, -1}, {7, 3, 0}, {7, -1, 0}, {0, 0, 0}, {7, 32, 0}};
        for (int[] b : bad) {
            due("kneeFor(" + b[0] + ", " + b[1] + ", " + b[2] + ")", x.kneeFor(b[0], b[1], b[2]), BAD);
        }
    }

    private static void mostOf(KneesLent x, int which, int many, int oil) {
        due("most(0)", x.most(0), which);
        due("most(1)", x.most(1), many);
        due("most(2)", x.most(2), oil);
    }

    private static void most() {
        Due.about("promise 18");
        KneesLent x = small();
        mostOf(x, 7, 3, 7);
        x.pledges(2, 1);
        // Somebody gets the one left: the second, whose set costs less oil.
        mostOf(x, 6, 2, 1);
        x.pledges(0, 1);
        mostOf(x, 4, 1, 0);
        mostOf(Due.read("k0 0 9;p1 0 0;p1 0 0;p1 0 0;"), 1, 1, 1);
        mostOf(Due.read("k0 0 9;k0 1 1;p1 9 0;p1 0 0;p1 0 0;o0 7;o1 0;"), 3, 2, 7);
        mostOf(Due.read("k0 0 9;k1 0 9;p3 0 0;p1 0 0;p2 0 0;"), 6, 2, 2);
        mostOf(Due.read("k0 0 9;k1 0 9;k0 1 1;p3 2 0;p1 0 0;p2 0 0;p1 0 0;o1 2;o0 4;"), 14, 3, 10);
        mostOf(Due.read("k0 0 9;"), 0, 0, 0);
        mostOf(Due.read("p1 0 0;"), 0, 0, 0);
        mostOf(Due.read("k0 4 60;".repeat(9) + "p1 20 20;".repeat(6) + "o4 9;"), 63, 6, 54);
        mostOf(new KneesLent(), 0, 0, 0);
        due("most(3)", x.most(3), BAD);
        for (int wrong : WRONG) {
            due("most(wrong)", x.most(wrong), BAD);
        }
    }

    private static void span() {
        Due.about("promise 19");
        KneesLent x = Due.read("k0 0 30;k1 0 29;k0 0 60;p3 4 3;p1 0 0;p2 20 20;p1 0 1;");
        due("span(0, 0)", x.span(0, 0), 3);
        due("span(1, 0)", x.span(1, 0), 2);
        due("always", x.span(0, 1), NONE);
        due("of the other side, too", x.span(0, 2), 0);
        due("just once", x.span(2, 2), 1);
        due("span(1, 3)", x.span(1, 3), 14);
        x.lends(0, 0);
        x.lends(1, 0);
        x.walks(0, 0, 11);
        due("by what is left", x.span(0, 0), 0);
        due("by what is left", x.span(0, 3), 4);
        due("span(3, 0)", x.span(3, 0), BAD);
        due("span(0, 4)", x.span(0, 4), BAD);
        for (int wrong : WRONG) {
            due("span(wrong, 0)", x.span(wrong, 0), BAD);
            due("span(0, wrong)", x.span(0, wrong), BAD);
        }
    }

    private static void fraction(KneesLent x, int[] by, int upper, int lower) {
        due("upper", x.gives(by[0], by[1], by[2], by[3], by[4], 0), upper);
        due("lower", x.gives(by[0], by[1], by[2], by[3], by[4], 1), lower);
    }

    private static void gives() {
        Due.about("promise 20");
        KneesLent x = Due.read("k0 0 9;k0 0 1;p1 0 0;");
        fraction(x, new int[] {0, 0, 30, 30, 5}, 0, 1);
        fraction(x, new int[] {0, 3, 3, 2, 5}, 0, 1);
        fraction(x, new int[] {0, 3, 3, 5, 5}, 7, 8);
        fraction(x, new int[] {0, 1, 10, 0, 3}, 3, 10);
        fraction(x, new int[] {0, 1, 9, 0, 3}, 0, 1);
        fraction(x, new int[] {0, 1, 0, 10, 4}, 3, 5);
        fraction(x, new int[] {0, 1, 10, 0, 10}, 1, 1);
        fraction(x, new int[] {0, 1, 10, 0, 0}, 0, 1);
        fraction(x, new int[] {0, 6, 30, 30, 5}, 1, 1);
        fraction(x, new int[] {1, 6, 30, 0, 1}, 468559, 1000000);
        fraction(x, new int[] {0, 2, 5, 4, 2}, 1, 25);
        fraction(x, new int[] {0, 6, 10, 0, 9}, 999999, 1000000);
        x.lends(0, 0);
        x.walks(0, 9, 0);
        fraction(x, new int[] {0, 1, 1, 0, 5}, 1, 2);
        int[][] bad = {{2, 0, 0, 0, 0, 0}, {-1, 0, 0, 0, 0, 0}, {0, 7, 0, 0, 0, 0}, {0, -1, 0, 0, 0, 0}, {0, 0, 31, 0, 0, 0},
            {0, 0, -1, 0, 0, 0}, {0, 0, 0, 31, 0, 0}, {0, 0, 0, -1, 0, 0}, {0, 0, 0, 0, 11, 0}, {0, 0, 0, 0, -1, 0},
            {0, 0, 0, 0, 0, 2}, {0, 0, 0, 0, 0, -1}};
        for (int[] b : bad) {
            due("gives BAD", x.gives(b[0], b[1], b[2], b[3], b[4], b[5]), BAD);
        }
    }

    private static void tells() {
        Due.about("promise 21");
        KneesLent x = small();
        int[][] bad = {{3, 0, 0}, {-1, 0, 0}, {0, 41, 0}, {0, -1, 0}, {0, 0, 81}, {0, 0, -1}};
        for (int[] b : bad) {
            due("tells BAD", x.tells(b[0], b[1], b[2]), BAD);
        }
        due("tells(2, 0, 0)", x.tells(2, 0, 0), 1);
        for (int i = 2; i <= 6; i++) {
            due("tells", x.tells(1, 40, 80), i);
        }
        due("a seventh", x.tells(0, 0, 1), FULL);
        due("a seventh, wrong", x.tells(0, 0, 81), BAD);
        due("count(2)", x.count(2), 6);
        due("not heard", x.downhill(1), 0);
    }

    private static void downhill() {
        Due.about("promise 22");
        KneesLent x = Due.read("p1 0 0;".repeat(6));
        due("nothing told", x.downhill(0), 0);
        x.tells(0, 7, 7);
        due("none down", x.downhill(0), 0);
        x.tells(1, 7, 8);
        due("one down", x.downhill(0), 2);
        x.tells(2, 7, 14);
        due("all down", x.downhill(0), 6);
        due("no liars", x.downhill(1), 0);
        x.tells(3, 7, 15);
        x.tells(4, 7, 6);
        due("liars", x.downhill(1), 24);
        due("can not be so", x.downhill(0), 6);
        x.tells(1, 0, 1);
        due("both", x.downhill(0) & x.downhill(1), 2);
        x.forget();
        x.tells(5, 0, 0);
        due("no steps", x.downhill(0) + x.downhill(1), 0);
        due("downhill(2)", x.downhill(2), BAD);
        for (int wrong : WRONG) {
            due("downhill(wrong)", x.downhill(wrong), BAD);
        }
    }

    private static void felt() {
        Due.about("promise 23");
        KneesLent x = small();
        int[][] bad = {{5, 0}, {-1, 0}, {0, 2}, {0, -1}};
        for (int[] b : bad) {
            due("felt BAD", x.felt(b[0], b[1]), BAD);
        }
        for (int i = 1; i <= 5; i++) {
            due("felt", x.felt(4, 0), i);
        }
        due("a sixth", x.felt(0, 1), FULL);
        due("a sixth, wrong", x.felt(0, 2), BAD);
        due("count(3)", x.count(3), 5);
        due("not heard", x.rain(0), 8);
    }

    private static void rains(KneesLent x, int sets, int inAll, int fewest) {
        due("rain(0)", x.rain(0), sets);
        due("rain(1)", x.rain(1), inAll);
        due("rain(2)", x.rain(2), fewest);
    }

    private static void rain() {
        Due.about("promise 24");
        KneesLent x = small();
        rains(x, 8, 0, 0);
        x.felt(2, 1);
        rains(x, 0, NONE, NONE);
        x.lends(4, 0);
        rains(x, 4, 1, 1);
        x.lends(2, 1);
        x.lends(3, 2);
        x.felt(1, 1);
        rains(x, 3, 1, 2);
        x.brings(2);
        rains(x, 2, 5, 2);
        x.felt(1, 1);
        rains(x, 2, 5, 2);
        x.felt(1, 0);
        rains(x, 0, NONE, NONE);
        x.forget();
        x.felt(1, 0);
        x.felt(2, 0);
        rains(x, 2, 0, 0);
        x.brings(3);
        x.brings(4);
        rains(x, 8, 0, 0);
        rains(new KneesLent(), 1, 0, 0);
        x.forget();
        x.felt(0, 0);
        rains(x, 8, 0, 0);
        x.lends(0, 1);
        rains(x, 4, 0, 0);
        x.forget();
        x.felt(0, 1);
        rains(x, 4, 2, 1);
        due("rain(3)", x.rain(3), BAD);
        for (int wrong : WRONG) {
            due("rain(wrong)", x.rain(wrong), BAD);
        }
    }

    private static void forget() {
        Due.about("promise 25");
        KneesLent x = small();
        due("forget()", x.forget(), 0);
        x.tells(0, 1, 2);
        x.tells(1, 1, 5);
        x.felt(0, 1);
        due("forget()", x.forget(), 3);
        x.lends(0, 0);
        x.lends(2, 1);
        x.felt(0, 0);
        x.felt(1, 1);
        due("rain(0)", x.rain(0), 2);
        due("forget()", x.forget(), 2);
        due("count(2)", x.count(2), 0);
        due("count(3)", x.count(3), 0);
        due("downhill(0)", x.downhill(0), 0);
        due("downhill(1)", x.downhill(1), 0);
        due("rain(0)", x.rain(0), 8);
        due("forget()", x.forget(), 0);
    }

    private static void rate() {
        Due.about("promise 26");
        KneesLent x = small();
        x.lends(2, 1);
        x.walks(1, 2, 1);
        x.bell();
        x.bell();
        int[] want = {8, 13, 4, 26, 6, 10};
        for (int kind = 0; kind < 6; kind++) {
            due("rate(" + kind + ", 2)", x.rate(kind, 2), want[kind]);
        }
        x.walks(1, 20, 0);
        due("below 0", x.rate(2, 2), -12);
        due("rate(6, 0)", x.rate(6, 0), NO);
        due("rate(0, 5)", x.rate(0, 5), NO);
        for (int wrong : WRONG) {
            due("rate(wrong, 0)", x.rate(wrong, 0), NO);
            due("rate(0, wrong)", x.rate(0, wrong), NO);
        }
    }

    private static void keep() {
        Due.about("promise 27");
        KneesLent x = small();
        due("keep(0)", x.keep(0), 0);
        x.bell();
        due("keep(1)", x.keep(1), 1);
        due("not to be undone", x.now(7), 1);
        due("keep(2)", x.keep(2), BAD);
        for (int wrong : WRONG) {
            due("keep(wrong)", x.keep(wrong), BAD);
        }
        x.bell();
        due("keep(0) again", x.keep(0), 2);
        x.bell();
        due("back(0)", x.back(0), 2);
        due("back(1)", x.back(1), 1);
    }

    private static void back() {
        Due.about("promise 28");
        KneesLent x = small();
        due("back(2)", x.back(2), BAD);
        for (int wrong : WRONG) {
            due("back(wrong)", x.back(wrong), BAD);
        }
        x.lends(0, 0);
        x.lends(1, 0);
        x.walks(0, 20, 15);
        x.pledges(2, 1);
        x.bell();
        due("none kept", x.back(0), STATE);
        due("may be undone", x.now(7), 5);
        x.keep(0);
        due("the other", x.back(1), STATE);
        x.brings(0);
        x.pledges(2, 0);
        x.lends(2, 1);
        x.walks(1, 20, 20);
        x.bell();
        due("back(0)", x.back(0), 1);
        due("none may be undone", x.undo(), STATE);
        int[] nows = {1, 28, 2, 2, 2, 4, 2, 0};
        for (int what = 0; what < 8; what++) {
            due("now(" + what + ")", x.now(what), nows[what]);
        }
        due("knee(2, 4)", x.knee(2, 4), 1);
        due("knee(2, 2)", x.knee(2, 2), 12);
        due("knee(0, 3)", x.knee(0, 3), 0);
        x.tells(0, 1, 1);
        x.felt(0, 0);
        x.rate(0, 0);
        x.bell();
        due("back(0) again", x.back(0), 1);
        due("told stays", x.count(2), 1);
        due("felt stays", x.count(3), 1);
        due("trace stays", x.trace(), 1);
        x.bell();
        due("undo() of what came behind back()", x.undo(), 0);
        due("day", x.now(0), 1);
    }

    private static void nineKnees() {
        Due.about("nine knees, six people");
        KneesLent x = Due.read("k0 0 3;k1 0 3;k0 1 3;k1 1 3;k0 2 3;k1 2 3;k0 3 3;k1 3 3;k1 4 3;" + "p3 1 1;".repeat(4) + "p2 3 0;p1 3 0;");
        mostOf(x, 55, 5, 8);
        kneesFor(x, 31, 0, 1, 2, 3, 4, 5, 6, 7, NONE, 8);
        for (int k = 0; k < 9; k++) {
            due("lends", x.lends(k, k / 2), k + 1);
        }
        due("at home", x.now(1), 0);
        due("rest", x.now(5), NONE);
        mostOf(x, 0, 0, 0);
        due("all lent", x.bell(), 9);
        for (int p = 0; p < 5; p++) {
            due("walks", x.walks(p, 0, 2), p < 4 ? 2 : 1);
        }
        due("gave", x.now(4), 9);
        x.felt(4, 1);
        rains(x, 32, 16, 1);
        for (int f = 0; f < 4; f++) {
            x.felt(f, 0);
        }
        rains(x, 2, 16, 1);
        due("brings(8)", x.brings(8), 4);
        rains(x, 0, NONE, NONE);
        for (int k = 0; k < 8; k++) {
            due("brings", x.brings(k), k / 2);
            due("nothing left", x.lends(k, k / 2), STATE);
        }
        for (int k = 0; k < 9; k++) {
            due("pledges", x.pledges(k, 1), k + 1);
        }
    }

    private static void count() {
        Due.about("promise 29");
        KneesLent x = small();
        x.tells(0, 1, 1);
        x.tells(0, 1, 1);
        x.felt(0, 1);
        Due.typeAll(x, "abcd");
        int[] want = {5, 3, 2, 1, 4};
        for (int what = 0; what < 5; what++) {
            due("count(" + what + ")", x.count(what), want[what]);
        }
        due("count(5)", x.count(5), BAD);
        for (int wrong : WRONG) {
            due("count(wrong)", x.count(wrong), BAD);
        }
    }

    private static void trace() {
        Due.about("promise 30");
        long[] added = {1, 11, 101, 1011, 10101, 100001};
        for (int kind = 0; kind < 6; kind++) {
            KneesLent x = small();
            due("trace()", x.trace(), 0);
            x.rate(kind, 0);
            due("trace() behind rate(" + kind + ", 0)", x.trace(), added[kind]);
            x.rate(kind, 1);
            x.rate(6, 0);
            x.rate(kind, 9);
            due("trace() behind two", x.trace(), 2 * added[kind]);
        }
    }

    public static void main(String[] args) {
        newObject();
        type();
        clear();
        parishFaults();
        parishRead();
        parishAnew();
        knee();
        person();
        farm();
        tables();
        now();
        lends();
        oilHasAnEnd();
        walks();
        gaveHasAnEnd();
        brings();
        pledges();
        bell();
        undo();
        canGo();
        lending();
        kneeFor();
        most();
        span();
        gives();
        tells();
        downhill();
        felt();
        rain();
        forget();
        rate();
        keep();
        back();
        nineKnees();
        count();
        trace();
        Due.end();
    }
}
