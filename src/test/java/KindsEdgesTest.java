/** The edges of promises 26 to 30: kinds, images. */
public final class KindsEdgesTest {
    private static final int BAD = Edges.BAD, STATE = Edges.STATE, NONE = Edges.NONE, NO = Edges.NO;
    private static final long[] ADDED = {1, 11, 101, 1011, 10101, 100001};

    private KindsEdgesTest() {
    }

    private static void due(String call, long got, long want) {
        Due.due(call, got, want);
    }

    private static void rates(KneesLent x, int k, int... want) {
        for (int kind = 0; kind < 6; kind++) {
            due("rate(" + kind + ", " + k + ")", x.rate(kind, k), want[kind]);
        }
    }

    // ---- promise 26

    private static void promise26_kinds() {
        Edges.inside("rate(.., 0)", Edges::busy, NO, 0, 5, (x, kind) -> x.rate(kind, 0));
        Edges.outside("rate(.., 0)", Edges::busy, NO, 0, 5, (x, kind) -> x.rate(kind, 0));
    }

    private static void promise26_kneesThereAre() {
        for (int i = 0; i < 6; i++) {
            int kind = i;
            Edges.inside("rate(" + kind + ", ..)", Edges::busy, NO, 0, 4, (x, k) -> x.rate(kind, k));
            Edges.outside("rate(" + kind + ", ..)", Edges::busy, NO, 0, 4, (x, k) -> x.rate(kind, k));
        }
        Edges.inside("rate(4, ..) of nine", Edges::whole, NO, 0, 8, (x, k) -> x.rate(4, k));
        Edges.outside("rate(4, ..) of nine", Edges::whole, NO, 0, 8, (x, k) -> x.rate(4, k));
    }

    private static void promise26_noKneeNoKind() {
        Edges.changesNothing("rate(6, 5)", Edges::busy, NO, x -> x.rate(6, 5));
        Edges.changesNothing("rate(-1, -1)", Edges::busy, NO, x -> x.rate(-1, -1));
    }

    private static void promise26_freshAndFreeOfOil() {
        rates(Due.read("k0 0 1;o0 0;"), 0, 1, 1, 1, 2, 1, 1);
        rates(Due.read("k0 4 60;o4 9;"), 0, 60, 69, 60, 138, 60, 60);
    }

    private static void promise26_wornOffWholly() {
        KneesLent x = Due.read("k0 0 60;p1 0 0;o0 0;");
        x.lends(0, 0);
        x.walks(0, 20, 20);
        rates(x, 0, 0, 0, -60, 0, -60, 0);
    }

    private static void promise26_belowZeroIsNotNo() {
        KneesLent x = Due.read("k0 0 3;p1 0 0;");
        x.lends(0, 0);
        x.walks(0, 2, 0);
        due("rate(2, 0)", x.rate(2, 0), -1);
    }

    private static void promise26_numberOfTheFirstAndTheNinth() {
        KneesLent x = Edges.whole();
        due("rate(4, 0)", x.rate(4, 0), 1);
        due("rate(4, 8)", x.rate(4, 8), 68);
    }

    private static void promise26_finesNoneAndSome() {
        KneesLent x = Edges.whole();
        due("none", x.rate(5, 8), 60);
        x.lends(8, 5);
        x.lends(0, 0);
        x.bell();
        due("two", x.rate(5, 8), 62);
        x.undo();
        due("undone", x.rate(5, 8), 60);
    }

    private static void promise26_whatWoreOffBeyondStepsIsNotCounted() {
        KneesLent x = Due.read("k0 0 5;p1 0 0;");
        x.lends(0, 0);
        x.walks(0, 20, 20);
        due("rate(2, 0)", x.rate(2, 0), -5);
    }

    // ---- promise 27

    private static void promise27_images() {
        due("keep(0)", Edges.small().keep(0), 0);
        due("keep(1)", Edges.small().keep(1), 0);
        Edges.outside("keep", Edges::busy, BAD, 0, 1, (x, image) -> x.keep(image));
    }

    private static void promise27_theDay() {
        KneesLent x = Edges.small();
        x.bell();
        due("keep(0)", x.keep(0), 1);
        x.bell();
        due("keep(1)", x.keep(1), 2);
        due("back(0)", x.back(0), 1);
        due("back(1)", x.back(1), 2);
    }

    private static void promise27_keptAgain() {
        KneesLent x = Edges.small();
        x.keep(0);
        x.bell();
        x.keep(0);
        x.bell();
        due("back(0)", x.back(0), 1);
    }

    private static void promise27_nothingIsDoneByIt() {
        KneesLent x = Edges.busy();
        String before = Edges.look(x);
        due("keep(1)", x.keep(1), 3);
        due("as it was", Edges.look(x).equals(before) ? 1 : 0, 1);
    }

    private static void promise27_anImageIsNotWhatComesLater() {
        KneesLent x = Edges.small();
        x.keep(0);
        x.lends(0, 0);
        x.pledges(2, 1);
        x.bell();
        x.back(0);
        due("holder", x.knee(0, 3), NONE);
        due("pledge", x.knee(2, 4), 0);
        x.lends(2, 1);
        x.walks(1, 5, 0);
        x.back(0);
        due("left", x.knee(2, 2), 12);
        due("oil", x.now(2), 0);
    }

    // ---- promise 28

    private static void promise28_images() {
        due("back(0)", Edges.busy().back(0), 1);
        due("back(1)", Edges.busy().back(1), 2);
        Edges.outside("back", Edges::busy, BAD, 0, 1, (x, image) -> x.back(image));
    }

    private static void promise28_noneKept() {
        Edges.Start start = () -> {
            KneesLent x = Edges.small();
            x.lends(0, 0);
            x.bell();
            return x;
        };
        Edges.changesNothing("back(0)", start, STATE, x -> x.back(0));
        Edges.changesNothing("back(1)", start, STATE, x -> x.back(1));
    }

    private static void promise28_theOtherKept() {
        Edges.Start first = () -> {
            KneesLent x = Edges.small();
            x.keep(0);
            x.bell();
            return x;
        };
        Edges.changesNothing("back(1)", first, STATE, x -> x.back(1));
        Edges.Start second = () -> {
            KneesLent x = Edges.small();
            x.keep(1);
            x.bell();
            return x;
        };
        Edges.changesNothing("back(0)", second, STATE, x -> x.back(0));
    }

    private static void promise28_badAheadOfState() {
        Edges.outside("back, none kept", Edges::small, BAD, 0, 1, (x, image) -> x.back(image));
    }

    private static void promise28_allOfNow() {
        KneesLent x = Edges.busy();
        KneesLent then = Edges.small();
        then.bell();
        then.lends(2, 1);
        then.walks(1, 3, 0);
        due("back(0)", x.back(0), 1);
        for (int what = 0; what <= 6; what++) {
            due("now(" + what + ")", x.now(what), then.now(what));
        }
        for (int k = 0; k < 5; k++) {
            for (int what = 0; what < 5; what++) {
                due("knee(" + k + ", " + what + ")", x.knee(k, what), then.knee(k, what));
            }
        }
        due("back(1)", x.back(1), 2);
        int[] nows = {2, 24, 7, 2, 1, 4};
        for (int what = 0; what < nows.length; what++) {
            due("now(" + what + ")", x.now(what), nows[what]);
        }
        due("pledge of 3", x.knee(3, 4), 1);
        due("pledge of 1", x.knee(1, 4), 0);
        due("left of 0", x.knee(0, 2), 6);
    }

    private static void promise28_nothingElse() {
        KneesLent x = Edges.busy();
        x.back(0);
        due("told", x.count(2), 2);
        due("felt", x.count(3), 2);
        due("letters", x.count(4), 14);
        due("trace", x.trace(), 1011);
        due("the other image", x.back(1), 2);
        due("parish()", x.parish(), 2);
    }

    private static void promise28_nothingCanBeUndoneBehindIt() {
        KneesLent x = Edges.busy();
        due("ten", x.now(7), 10);
        x.back(0);
        due("none", x.now(7), 0);
        due("undo()", x.undo(), STATE);
        x.bell();
        due("undo() of what came later", x.undo(), 0);
        due("undo()", x.undo(), STATE);
    }

    private static void promise28_theImageStays() {
        KneesLent x = Edges.busy();
        due("back(0)", x.back(0), 1);
        x.bell();
        x.brings(2);
        due("back(0) again", x.back(0), 1);
        due("holder", x.knee(2, 3), 1);
        x.bell();
        x.undo();
        due("back(0) a third time", x.back(0), 1);
    }

    private static void promise28_goneOnceAParishIsRead() {
        KneesLent x = Edges.busy();
        x.parish();
        due("back(0)", x.back(0), STATE);
        due("back(1)", x.back(1), STATE);
        x.keep(1);
        due("back(0)", x.back(0), STATE);
        due("back(1)", x.back(1), 0);
    }

    private static void promise28_notGoneByAFault() {
        KneesLent x = Edges.busyWith("k0 0 1");
        due("parish()", x.parish(), -16);
        due("back(0)", x.back(0), 1);
        due("back(1)", x.back(1), 2);
    }

    private static void promise28_anImageOfNoParish() {
        KneesLent x = new KneesLent();
        x.keep(0);
        x.bell();
        due("back(0)", x.back(0), 0);
        due("now(0)", x.now(0), 0);
    }

    // ---- promise 29

    private static void promise29_whats() {
        due("count(0)", Edges.busy().count(0), 5);
        due("count(4)", Edges.busy().count(4), 14);
        Edges.outside("count", Edges::busy, BAD, 0, 4, (x, what) -> x.count(what));
    }

    private static void promise29_none() {
        KneesLent x = new KneesLent();
        for (int what = 0; what < 5; what++) {
            due("count(" + what + ")", x.count(what), 0);
        }
    }

    private static void promise29_most() {
        KneesLent x = Edges.whole();
        due("KNEES", x.count(0), 9);
        due("PEOPLE", x.count(1), 6);
        for (int i = 0; i < 7; i++) {
            x.tells(0, 1, 1);
        }
        due("TOLD", x.count(2), 6);
        for (int i = 0; i < 6; i++) {
            x.felt(0, 1);
        }
        due("FELT", x.count(3), 5);
        for (int i = 0; i < 181; i++) {
            x.type(0);
        }
        due("letters", x.count(4), 180);
    }

    private static void promise29_kneesThatAreLentCountToo() {
        KneesLent x = Edges.whole();
        x.lends(8, 5);
        x.pledges(0, 1);
        due("count(0)", x.count(0), 9);
    }

    // ---- promise 30

    private static void promise30_nothingAtFirst() {
        due("trace()", new KneesLent().trace(), 0);
        due("trace()", Edges.whole().trace(), 0);
    }

    private static void promise30_eachBodyOnce() {
        for (int kind = 0; kind < 6; kind++) {
            KneesLent x = Edges.small();
            x.rate(kind, 0);
            due("trace() behind rate(" + kind + ", 0)", x.trace(), ADDED[kind]);
            x.rate(kind, 4);
            due("trace() behind two", x.trace(), 2 * ADDED[kind]);
        }
    }

    private static void promise30_refusedAddsNothing() {
        KneesLent x = Edges.small();
        x.rate(6, 0);
        x.rate(-1, 0);
        for (int kind = 0; kind < 6; kind++) {
            x.rate(kind, 5);
            x.rate(kind, -1);
        }
        due("trace()", x.trace(), 0);
    }

    private static void promise30_moreThanTenOfABody() {
        KneesLent x = Edges.small();
        for (int i = 0; i < 12; i++) {
            x.rate(5, 0);
        }
        due("trace()", x.trace(), 1200012);
    }

    private static void promise30_asOftenAsCallsAllow() {
        KneesLent x = Due.read("k0 0 1;");
        for (int i = 0; i < 500; i++) {
            x.rate(5, 0);
        }
        due("trace()", x.trace(), 50000500L);
    }

    private static void promise30_itStays() {
        KneesLent x = Edges.small();
        x.keep(0);
        x.bell();
        x.rate(3, 0);
        x.undo();
        due("behind undo()", x.trace(), 1011);
        x.back(0);
        due("behind back()", x.trace(), 1011);
        x.forget();
        x.clear();
        due("behind forget(), clear()", x.trace(), 1011);
        x.parish();
        due("behind parish()", x.trace(), 1011);
    }

    public static void main(String[] args) throws Exception {
        Edges.run(KindsEdgesTest.class, 26, 30);
    }
}
