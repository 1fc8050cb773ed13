/** The edges of promises 21 to 25: wear, rain. */
public final class HearsayEdgesTest {
    private static final int BAD = Edges.BAD, FULL = Edges.FULL, NONE = Edges.NONE;

    private HearsayEdgesTest() {
    }

    private static void due(String call, long got, long want) {
        Due.due(call, got, want);
    }

    private static KneesLent sixTold() {
        KneesLent x = Edges.busy();
        x.forget();
        for (int i = 1; i <= 6; i++) {
            due("tells", x.tells(0, 5, 5), i);
        }
        return x;
    }

    private static KneesLent fiveFelt() {
        KneesLent x = Edges.busy();
        x.forget();
        for (int i = 1; i <= 5; i++) {
            due("felt", x.felt(1, 1), i);
        }
        return x;
    }

    // ---- promise 21

    private static void promise21_peopleThereAre() {
        Edges.range("tells(.., 5, 6)", Edges::busy, 0, 2, (x, p) -> x.tells(p, 5, 6));
        Edges.range("tells(.., 5, 6) of six", Edges::whole, 0, 5, (x, p) -> x.tells(p, 5, 6));
    }

    private static void promise21_stepsInAll() {
        Edges.range("tells(0, .., 40)", Edges::busy, 0, 40, (x, n) -> x.tells(0, n, 40));
    }

    private static void promise21_wornBy() {
        Edges.range("tells(0, 40, ..)", Edges::busy, 0, 80, (x, w) -> x.tells(0, 40, w));
    }

    private static void promise21_theSeventhTold() {
        Edges.changesNothing("the seventh, downhill", HearsayEdgesTest::sixTold, FULL, x -> x.tells(1, 5, 6));
        Edges.changesNothing("the seventh, a liar", HearsayEdgesTest::sixTold, FULL, x -> x.tells(1, 5, 4));
    }

    private static void promise21_badAheadOfFull() {
        Edges.outside("the seventh, p", HearsayEdgesTest::sixTold, BAD, 0, 2, (x, p) -> x.tells(p, 0, 0));
        Edges.outside("the seventh, n", HearsayEdgesTest::sixTold, BAD, 0, 40, (x, n) -> x.tells(0, n, 0));
        Edges.outside("the seventh, w", HearsayEdgesTest::sixTold, BAD, 0, 80, (x, w) -> x.tells(0, 0, w));
    }

    private static void promise21_whatCanNotBeSoCountsToo() {
        KneesLent x = Edges.small();
        due("a liar's", x.tells(0, 5, 80), 1);
        due("of the same again", x.tells(0, 5, 80), 2);
    }

    private static void promise21_roomAgainBehindForgetAndParish() {
        KneesLent x = sixTold();
        x.forget();
        due("behind forget()", x.tells(0, 5, 5), 1);
        KneesLent y = sixTold();
        y.clear();
        Due.typeAll(y, "p1 0 0;");
        y.parish();
        due("behind parish()", y.tells(0, 5, 5), 1);
    }

    private static void promise21_whatWasFeltTakesNoRoom() {
        KneesLent x = fiveFelt();
        for (int i = 1; i <= 6; i++) {
            due("tells", x.tells(0, 5, 5), i);
        }
    }

    // ---- promise 22

    private static void promise22_whats() {
        due("nothing told", Edges.small().downhill(0), 0);
        due("nothing told", Edges.small().downhill(1), 0);
        Edges.outside("downhill", Edges::busy, BAD, 0, 1, (x, what) -> x.downhill(what));
    }

    private static void told(int n, int w, int downhill, int liars) {
        KneesLent x = Edges.small();
        x.tells(1, n, w);
        due("downhill(0) by " + n + " steps, " + w + " worn", x.downhill(0), downhill);
        due("downhill(1) by " + n + " steps, " + w + " worn", x.downhill(1), liars);
    }

    private static void promise22_noneDownAndFewerThanNone() {
        told(7, 7, 0, 0);
        told(7, 6, 0, 2);
        told(40, 40, 0, 0);
        told(40, 39, 0, 2);
        told(40, 0, 0, 2);
    }

    private static void promise22_oneStepDown() {
        told(7, 8, 2, 0);
        told(1, 2, 2, 0);
        told(40, 41, 2, 0);
    }

    private static void promise22_allDownAndMoreThanAll() {
        told(7, 14, 2, 0);
        told(7, 15, 0, 2);
        told(1, 3, 0, 2);
        told(40, 80, 2, 0);
        told(39, 78, 2, 0);
        told(39, 79, 0, 2);
        told(0, 80, 0, 2);
    }

    private static void promise22_noSteps() {
        told(0, 0, 0, 0);
        told(0, 1, 0, 2);
    }

    private static void promise22_bitsOfTheFirstAndTheLast() {
        KneesLent x = Edges.whole();
        x.tells(0, 1, 2);
        x.tells(5, 1, 2);
        due("downhill(0)", x.downhill(0), 33);
        KneesLent y = Edges.whole();
        y.tells(0, 1, 0);
        y.tells(5, 1, 0);
        due("downhill(1)", y.downhill(1), 33);
    }

    private static void promise22_somethingOfWhatWasTold() {
        KneesLent x = Edges.small();
        x.tells(0, 7, 8);
        x.tells(0, 7, 7);
        due("downhill stays", x.downhill(0), 1);
        x.tells(0, 7, 6);
        due("downhill stays", x.downhill(0), 1);
        due("a liar, too", x.downhill(1), 1);
        x.tells(0, 7, 7);
        due("a liar stays", x.downhill(1), 1);
    }

    private static void promise22_theSixthIsHeard() {
        KneesLent x = Edges.small();
        for (int i = 0; i < 5; i++) {
            x.tells(0, 5, 5);
        }
        x.tells(2, 5, 6);
        due("downhill(0)", x.downhill(0), 4);
    }

    private static void promise22_nothingIsChanged() {
        Edges.onlyAsks("downhill(0)", x -> x.downhill(0));
        Edges.onlyAsks("downhill(1)", x -> x.downhill(1));
    }

    // ---- promise 23

    private static void promise23_farmsFrom0To4() {
        Edges.range("felt(.., 0)", Edges::busy, 0, 4, (x, f) -> x.felt(f, 0));
        Edges.range("felt(.., 1) of no knees", KneesLent::new, 0, 4, (x, f) -> x.felt(f, 1));
    }

    private static void promise23_oneOrNot() {
        Edges.range("felt(0, ..)", Edges::busy, 0, 1, (x, is) -> x.felt(0, is));
    }

    private static void promise23_theSixthFelt() {
        Edges.changesNothing("the sixth, rain", HearsayEdgesTest::fiveFelt, FULL, x -> x.felt(0, 1));
        Edges.changesNothing("the sixth, none", HearsayEdgesTest::fiveFelt, FULL, x -> x.felt(0, 0));
    }

    private static void promise23_badAheadOfFull() {
        Edges.outside("the sixth, f", HearsayEdgesTest::fiveFelt, BAD, 0, 4, (x, f) -> x.felt(f, 1));
        Edges.outside("the sixth, is", HearsayEdgesTest::fiveFelt, BAD, 0, 1, (x, is) -> x.felt(0, is));
    }

    private static void promise23_roomAgainBehindForgetAndParish() {
        KneesLent x = fiveFelt();
        x.forget();
        due("behind forget()", x.felt(0, 1), 1);
        KneesLent y = fiveFelt();
        due("parish()", y.parish(), 2);
        due("behind parish()", y.felt(0, 1), 1);
    }

    private static void promise23_whatWasToldTakesNoRoom() {
        KneesLent x = sixTold();
        for (int i = 1; i <= 5; i++) {
            due("felt", x.felt(0, 0), i);
        }
    }

    // ---- promise 24

    private static void rain(KneesLent x, int sets, int inAll, int fewest) {
        due("rain(0)", x.rain(0), sets);
        due("rain(1)", x.rain(1), inAll);
        due("rain(2)", x.rain(2), fewest);
    }

    /** Six people have a knee each: the first two of farm 0, the next two of farm 1, the others of farms 2 and 3. */
    private static KneesLent sixLent() {
        KneesLent x = Due.read("k0 0 1;k0 0 1;k0 1 1;k0 1 1;k0 2 1;k0 3 1;k0 4 1;" + "p1 0 0;".repeat(6));
        for (int i = 0; i < 6; i++) {
            x.lends(i, i);
        }
        return x;
    }

    private static void promise24_whats() {
        Edges.range("rain", Edges::small, 0, 2, (x, what) -> x.rain(what));
        Edges.outside("rain, busy", Edges::busy, BAD, 0, 2, (x, what) -> x.rain(what));
    }

    private static void promise24_nothingFelt() {
        rain(new KneesLent(), 1, 0, 0);
        rain(Due.read("p1 0 0;"), 2, 0, 0);
        rain(sixLent(), 64, 0, 0);
    }

    private static void promise24_nobodyThereAndRainFelt() {
        KneesLent x = new KneesLent();
        x.felt(0, 1);
        rain(x, 0, NONE, NONE);
        KneesLent y = new KneesLent();
        y.felt(0, 0);
        rain(y, 1, 0, 0);
    }

    private static void promise24_noSet() {
        KneesLent x = sixLent();
        x.felt(4, 1);
        rain(x, 0, NONE, NONE);
        KneesLent y = sixLent();
        y.felt(0, 1);
        y.felt(0, 0);
        rain(y, 0, NONE, NONE);
    }

    private static void promise24_theEmptySetAlone() {
        KneesLent x = sixLent();
        for (int f = 0; f < 4; f++) {
            x.felt(f, 0);
        }
        rain(x, 1, 0, 0);
    }

    private static void promise24_theWholeSetAlone() {
        KneesLent x = Due.read("k0 0 1;k1 0 1;k0 1 1;k0 2 1;k0 3 1;p3 0 0;p1 0 0;p1 0 0;p1 0 0;");
        int[] to = {0, 0, 1, 2, 3};
        for (int k = 0; k < 5; k++) {
            x.lends(k, to[k]);
        }
        for (int f = 0; f < 4; f++) {
            x.felt(f, 1);
        }
        rain(x, 1, 15, 4);
    }

    private static void promise24_oneOfTwoOrBoth() {
        KneesLent x = sixLent();
        x.felt(0, 1);
        rain(x, 48, 0, 1);
        x.felt(1, 1);
        rain(x, 36, 0, 2);
        x.felt(2, 1);
        rain(x, 18, 16, 3);
        x.felt(3, 1);
        rain(x, 9, 48, 4);
        x.felt(4, 0);
        rain(x, 9, 48, 4);
    }

    private static void promise24_theFifthIsHeard() {
        KneesLent x = sixLent();
        for (int i = 0; i < 4; i++) {
            x.felt(4, 0);
        }
        x.felt(3, 1);
        rain(x, 32, 32, 1);
    }

    private static void promise24_kneesAtHomeFeelNoRain() {
        KneesLent x = sixLent();
        x.felt(3, 1);
        rain(x, 32, 32, 1);
        x.brings(5);
        rain(x, 0, NONE, NONE);
        x.lends(5, 5);
        rain(x, 32, 32, 1);
    }

    private static void promise24_onePersonTwoFarms() {
        KneesLent x = Due.read("k0 0 1;k1 4 1;p3 0 0;p1 0 0;");
        x.lends(0, 0);
        x.lends(1, 0);
        x.felt(0, 1);
        rain(x, 2, 1, 1);
        x.felt(4, 0);
        rain(x, 0, NONE, NONE);
    }

    private static void promise24_nothingIsChanged() {
        for (int what = 0; what < 3; what++) {
            int asked = what;
            Edges.onlyAsks("rain(" + asked + ")", x -> x.rain(asked));
        }
    }

    // ---- promise 25

    private static void promise25_nothingAndMost() {
        Edges.changesNothing("forget() of nothing", Edges::small, 0, x -> x.forget());
        KneesLent x = sixTold();
        for (int i = 0; i < 5; i++) {
            x.felt(0, 1);
        }
        due("forget() of all", x.forget(), 11);
        due("forget() again", x.forget(), 0);
    }

    private static void promise25_oneOfEach() {
        KneesLent x = Edges.small();
        x.tells(0, 1, 1);
        due("one told", x.forget(), 1);
        x.felt(0, 1);
        due("one felt", x.forget(), 1);
    }

    private static void promise25_nothingFollowsFromItAnyMore() {
        KneesLent x = Edges.busy();
        due("forget()", x.forget(), 4);
        due("count(2)", x.count(2), 0);
        due("count(3)", x.count(3), 0);
        due("downhill(0)", x.downhill(0), 0);
        due("downhill(1)", x.downhill(1), 0);
        due("rain(0)", x.rain(0), 8);
        due("rain(1)", x.rain(1), 0);
        due("rain(2)", x.rain(2), 0);
    }

    private static void promise25_neitherRainNorNone() {
        KneesLent x = sixLent();
        x.felt(0, 0);
        rain(x, 16, 0, 0);
        x.forget();
        rain(x, 64, 0, 0);
        x.felt(3, 1);
        rain(x, 32, 32, 1);
        x.forget();
        rain(x, 64, 0, 0);
    }

    private static void promise25_allElseStays() {
        KneesLent x = Edges.busy();
        x.forget();
        due("undo()", x.undo(), 9);
        due("letters", x.count(4), 14);
        due("trace", x.trace(), 1011);
        due("back(0)", x.back(0), 1);
        due("back(1)", x.back(1), 2);
    }

    public static void main(String[] args) throws Exception {
        Edges.run(HearsayEdgesTest.class, 21, 25);
    }
}
