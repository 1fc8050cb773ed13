/** The edges of promises 9 to 14: what is done. */
public final class DeedsEdgesTest {
    private static final int BAD = Edges.BAD, STATE = Edges.STATE, NONE = Edges.NONE;

    private DeedsEdgesTest() {
    }

    private static void due(String call, long got, long want) {
        Due.due(call, got, want);
    }

    /** A text is read, and knees are lent: a knee and a person by turns. */
    private static KneesLent lent(String text, int... pairs) {
        KneesLent x = Due.read(text);
        for (int i = 0; i + 1 < pairs.length; i += 2) {
            due("lends(" + pairs[i] + ", " + pairs[i + 1] + ") refused", x.lends(pairs[i], pairs[i + 1]) < 0 ? 1 : 0, 0);
        }
        return x;
    }

    // ---- promise 9

    private static void promise09_kneesAndPeopleThereAre() {
        Edges.Start start = () -> lent("k1 0 9;k0 0 9;k0 0 9;p2 0 0;p1 0 0;", 1, 1);
        Edges.outside("lends(.., 1)", start, BAD, 0, 2, (x, k) -> x.lends(k, 1));
        Edges.outside("lends(0, ..)", start, BAD, 0, 1, (x, p) -> x.lends(0, p));
        due("lends(0, 0)", start.make().lends(0, 0), 2);
        KneesLent whole = Edges.whole();
        due("lends(8, 5)", whole.lends(8, 5), 1);
        due("lends(0, 0)", whole.lends(0, 0), 2);
        Edges.outside("lends(.., 5) of nine", Edges::whole, BAD, 0, 8, (x, k) -> x.lends(k, 5));
        Edges.outside("lends(8, ..) of six", Edges::whole, BAD, 0, 5, (x, p) -> x.lends(8, p));
    }

    private static void promise09_badAheadOfState() {
        Edges.changesNothing("a lent knee to nobody", Edges::busy, BAD, x -> x.lends(0, 3));
        Edges.changesNothing("a pledged knee to nobody", Edges::busy, BAD, x -> x.lends(4, -1));
        Edges.changesNothing("no knee to one who has his", Edges::busy, BAD, x -> x.lends(5, 1));
    }

    private static void promise09_oneStepLeftAndNone() {
        Edges.Start worn = () -> {
            KneesLent x = lent("k0 0 2;p1 20 20;", 0, 0);
            x.walks(0, 1, 0);
            x.brings(0);
            return x;
        };
        due("one left", worn.make().lends(0, 0), 2);
        Edges.Start wornOff = () -> {
            KneesLent x = lent("k0 0 2;p1 20 20;", 0, 0);
            x.walks(0, 0, 1);
            x.brings(0);
            return x;
        };
        Edges.changesNothing("none left", wornOff, STATE, x -> x.lends(0, 0));
    }

    private static void promise09_notAtHome() {
        String text = "k0 0 9;p1 0 0;p1 0 0;";
        Edges.changesNothing("to the same", () -> lent(text, 0, 0), STATE, x -> x.lends(0, 0));
        Edges.changesNothing("to another", () -> lent(text, 0, 0), STATE, x -> x.lends(0, 1));
        KneesLent x = lent(text, 0, 0);
        x.brings(0);
        due("home again", x.lends(0, 1), 2);
    }

    private static void promise09_inPledge() {
        Edges.Start pledged = () -> {
            KneesLent x = Due.read("k0 0 9;k0 0 9;p1 0 0;");
            x.pledges(0, 1);
            return x;
        };
        Edges.changesNothing("in pledge", pledged, STATE, x -> x.lends(0, 0));
        due("the one beside it", pledged.make().lends(1, 0), 1);
        KneesLent x = pledged.make();
        x.pledges(0, 0);
        due("not any more", x.lends(0, 0), 1);
    }

    private static void promise09_theSideThatHeNeeds() {
        Edges.Start start = () -> Due.read("k0 0 9;k1 0 9;p1 0 0;p2 0 0;p3 0 0;");
        Edges.changesNothing("a right to one who needs a left", start, STATE, x -> x.lends(1, 0));
        Edges.changesNothing("a left to one who needs a right", start, STATE, x -> x.lends(0, 1));
        due("a left", start.make().lends(0, 0), 1);
        due("a right", start.make().lends(1, 1), 1);
        due("a left of a pair", start.make().lends(0, 2), 1);
        due("a right of a pair", start.make().lends(1, 2), 1);
    }

    private static void promise09_hasOneOfThatSide() {
        String text = "k0 0 9;k0 0 9;k1 0 9;k1 0 9;p3 0 0;";
        Edges.changesNothing("a second left", () -> lent(text, 0, 0), STATE, x -> x.lends(1, 0));
        Edges.changesNothing("a second right", () -> lent(text, 2, 0), STATE, x -> x.lends(3, 0));
        Edges.changesNothing("a second left to a pair", () -> lent(text, 0, 0, 2, 0), STATE, x -> x.lends(1, 0));
        due("a right to a left", lent(text, 0, 0).lends(3, 0), 2);
    }

    private static void promise09_farmsThatDoNotSpeak() {
        String text = "k0 0 9;k1 1 9;k1 0 9;k1 2 9;k0 1 9;p3 0 0;p3 0 0;x1 0;x2 3;";
        Edges.changesNothing("right behind left", () -> lent(text, 0, 0), STATE, x -> x.lends(1, 0));
        Edges.changesNothing("left behind right", () -> lent(text, 1, 0), STATE, x -> x.lends(0, 0));
        due("its own farm", lent(text, 0, 0).lends(2, 0), 2);
        due("a farm that speaks with it, not with another", lent(text, 0, 0).lends(3, 0), 2);
        due("whom another has does not matter", lent(text, 0, 1).lends(1, 0), 2);
        KneesLent x = lent(text, 0, 0);
        x.brings(0);
        due("what he had does not matter", x.lends(1, 0), 2);
    }

    private static void promise09_oilNoneAndMost() {
        due("none", lent("k0 0 9;p1 0 0;o0 0;").lends(0, 0), 0);
        due("most", lent("k0 4 9;p1 0 0;o4 9;").lends(0, 0), 9);
        due("of its farm", lent("k0 1 9;p1 0 0;o0 9;o2 9;").lends(0, 0), 1);
    }

    /** More than 512 calls: what they answer is free, but the limit is told. */
    private static void promise09_allOilEndsAt99999() {
        KneesLent x = Due.read("k0 0 1;p1 0 0;o0 9;");
        for (int i = 1; i <= 11113; i++) {
            due("lends", x.lends(0, 0), Math.min(99999, 9 * i));
            x.brings(0);
        }
        due("now(2)", x.now(2), 99999);
    }

    // ---- promise 10

    private static KneesLent ready() {
        return lent("k0 0 60;k1 0 60;k0 0 9;p3 0 0;p1 0 0;", 0, 0, 1, 0);
    }

    private static void promise10_peopleThereAre() {
        Edges.outside("walks(.., 0, 0)", DeedsEdgesTest::ready, BAD, 0, 1, (x, p) -> x.walks(p, 0, 0));
        Edges.outside("walks(.., 0, 0) of six", () -> lent(Edges.WHOLE, 8, 5), BAD, 0, 5, (x, p) -> x.walks(p, 0, 0));
        due("walks(5, 20, 20)", lent(Edges.WHOLE, 8, 5).walks(5, 20, 20), 0);
    }

    private static void promise10_stepsUp() {
        due("0", ready().walks(0, 0, 1), 0);
        due("20", ready().walks(0, 20, 0), 0);
        Edges.outside("walks(0, .., 0)", DeedsEdgesTest::ready, BAD, 0, 20, (x, u) -> x.walks(0, u, 0));
    }

    private static void promise10_stepsDown() {
        due("0", ready().walks(0, 1, 0), 0);
        due("20", ready().walks(0, 0, 20), 0);
        Edges.outside("walks(0, 0, ..)", DeedsEdgesTest::ready, BAD, 0, 20, (x, d) -> x.walks(0, 0, d));
    }

    private static void promise10_notReady() {
        String text = "k0 0 9;k1 0 9;p3 0 0;p1 0 0;p2 0 0;";
        for (int p = 0; p < 3; p++) {
            int who = p;
            Edges.changesNothing("has none", () -> lent(text), STATE, x -> x.walks(who, 1, 1));
            Edges.changesNothing("has none, goes nowhere", () -> lent(text), STATE, x -> x.walks(who, 0, 0));
        }
        Edges.changesNothing("has a left of a pair", () -> lent(text, 0, 0), STATE, x -> x.walks(0, 1, 1));
        Edges.changesNothing("has a right of a pair", () -> lent(text, 1, 0), STATE, x -> x.walks(0, 1, 1));
        Edges.changesNothing("another is READY", () -> lent(text, 0, 1), STATE, x -> x.walks(2, 1, 1));
        due("a left is all", lent(text, 0, 1).walks(1, 1, 1), 0);
        due("a right is all", lent(text, 1, 2).walks(2, 1, 1), 0);
        due("a pair is all", lent(text, 0, 0, 1, 0).walks(0, 1, 1), 0);
    }

    private static void promise10_badAheadOfState() {
        Edges.outside("not READY, up", DeedsEdgesTest::ready, BAD, 0, 20, (x, u) -> x.walks(1, u, 0));
        Edges.outside("not READY, down", DeedsEdgesTest::ready, BAD, 0, 20, (x, d) -> x.walks(1, 0, d));
    }

    private static void promise10_wearOneUpTwoDown() {
        KneesLent x = ready();
        x.walks(0, 1, 0);
        due("one up", x.knee(0, 2), 59);
        x.walks(0, 0, 1);
        due("one down", x.knee(0, 2), 57);
        due("the right one, too", x.knee(1, 2), 57);
        due("not one at home", x.knee(2, 2), 9);
    }

    private static void promise10_allThatIsLeftAndOneMore() {
        String text = "k0 0 10;p1 0 0;";
        KneesLent x = lent(text, 0, 0);
        due("all that is left", x.walks(0, 4, 3), 0);
        due("none left", x.knee(0, 2), 0);
        due("none gave", x.now(4), 0);
        KneesLent y = lent(text, 0, 0);
        due("one more", y.walks(0, 5, 3), 1);
        due("none left", y.knee(0, 2), 0);
        due("one gave", y.now(4), 1);
        KneesLent z = lent(text, 0, 0);
        due("one fewer", z.walks(0, 3, 3), 0);
        due("one left", z.knee(0, 2), 1);
    }

    private static void promise10_greatestWear() {
        due("60 of 60", lent("k0 0 60;p1 0 0;", 0, 0).walks(0, 20, 20), 0);
        due("60 of 59", lent("k0 0 59;p1 0 0;", 0, 0).walks(0, 20, 20), 1);
    }

    private static void promise10_noneOneBothGive() {
        String text = "k0 0 3;k1 0 4;p3 0 0;";
        due("none", lent(text, 0, 0, 1, 0).walks(0, 3, 0), 0);
        due("the left", lent(text, 0, 0, 1, 0).walks(0, 4, 0), 1);
        due("both", lent(text, 0, 0, 1, 0).walks(0, 5, 0), 2);
    }

    private static void promise10_nothingLeftGivesAgain() {
        KneesLent x = lent("k0 0 1;p1 0 0;", 0, 0);
        x.walks(0, 1, 0);
        due("no wear", x.walks(0, 0, 0), 0);
        due("wear 1", x.walks(0, 1, 0), 1);
        due("wear 1 again", x.walks(0, 1, 0), 1);
        due("counted", x.now(4), 2);
    }

    private static void promise10_aWalkOfNoStepsIsDone() {
        KneesLent x = ready();
        due("walks(0, 0, 0)", x.walks(0, 0, 0), 0);
        due("may be undone", x.now(7), 3);
    }

    /** More than 512 calls: what they answer is free, but the limit is told. */
    private static void promise10_gaveEndsAt999() {
        KneesLent x = lent("k0 0 1;k1 0 1;p3 0 0;", 0, 0, 1, 0);
        for (int i = 1; i <= 502; i++) {
            due("walks", x.walks(0, 2, 0), 2);
            due("now(4)", x.now(4), Math.min(999, 2 * i));
        }
    }

    // ---- promise 11

    private static void promise11_kneesThereAre() {
        Edges.outside("brings", Edges::busy, BAD, 0, 4, (x, k) -> x.brings(k));
        Edges.outside("brings of nine", () -> lent(Edges.WHOLE, 8, 5), BAD, 0, 8, (x, k) -> x.brings(k));
    }

    private static void promise11_theFirstAndTheLast() {
        KneesLent x = lent(Edges.WHOLE, 8, 5, 0, 0);
        due("brings(8)", x.brings(8), 5);
        due("brings(0)", x.brings(0), 0);
        due("all at home", x.now(1), 511);
    }

    private static void promise11_atHome() {
        String text = "k0 0 9;k0 0 9;p1 0 0;";
        Edges.changesNothing("never lent", () -> lent(text), STATE, x -> x.brings(0));
        Edges.changesNothing("another is lent", () -> lent(text, 1, 0), STATE, x -> x.brings(0));
        Edges.changesNothing("in pledge", Edges::busy, STATE, x -> x.brings(4));
        Edges.changesNothing("brought back", Edges::busy, STATE, x -> x.brings(1));
    }

    private static void promise11_oilStays() {
        KneesLent x = lent("k0 0 9;p1 0 0;o0 9;", 0, 0);
        x.brings(0);
        due("now(2)", x.now(2), 9);
    }

    // ---- promise 12

    private static void promise12_kneesThereAre() {
        Edges.outside("pledges(.., 1)", Edges::busy, BAD, 0, 4, (x, k) -> x.pledges(k, 1));
        Edges.outside("pledges(.., 0)", Edges::busy, BAD, 0, 4, (x, k) -> x.pledges(k, 0));
        Edges.outside("pledges(.., 1) of nine", Edges::whole, BAD, 0, 8, (x, k) -> x.pledges(k, 1));
        due("pledges(0, 1)", Edges.whole().pledges(0, 1), 1);
        due("pledges(8, 1)", Edges.whole().pledges(8, 1), 1);
    }

    private static void promise12_oneOrNot() {
        Edges.outside("pledges(4, ..) in pledge", Edges::busy, BAD, 0, 1, (x, is) -> x.pledges(4, is));
        Edges.outside("pledges(3, ..) not in pledge", Edges::busy, BAD, 0, 1, (x, is) -> x.pledges(3, is));
        due("pledges(3, 1)", Edges.busy().pledges(3, 1), 3);
        due("pledges(4, 0)", Edges.busy().pledges(4, 0), 1);
    }

    private static void promise12_itIsSo() {
        Edges.changesNothing("in pledge", Edges::busy, STATE, x -> x.pledges(4, 1));
        Edges.changesNothing("not in pledge", Edges::busy, STATE, x -> x.pledges(3, 0));
        Edges.changesNothing("never in pledge", Edges::small, STATE, x -> x.pledges(0, 0));
    }

    private static void promise12_itIsLent() {
        Edges.changesNothing("lent, to be in pledge", Edges::busy, STATE, x -> x.pledges(0, 1));
        Edges.changesNothing("lent, not in pledge", Edges::busy, STATE, x -> x.pledges(0, 0));
    }

    private static void promise12_badAheadOfState() {
        Edges.outside("pledges(0, ..) lent", Edges::busy, BAD, 0, 1, (x, is) -> x.pledges(0, is));
        Edges.changesNothing("pledges(5, 2)", Edges::busy, BAD, x -> x.pledges(5, 2));
    }

    private static void promise12_noneAndAllInPledge() {
        KneesLent x = Edges.whole();
        for (int k = 0; k < 9; k++) {
            due("pledges(" + k + ", 1)", x.pledges(k, 1), k + 1);
        }
        for (int k = 0; k < 9; k++) {
            due("pledges(" + k + ", 0)", x.pledges(k, 0), 8 - k);
        }
    }

    // ---- promise 13

    private static void promise13_noneLent() {
        due("no knees", new KneesLent().bell(), 0);
        KneesLent x = Edges.whole();
        x.pledges(0, 1);
        due("one in pledge", x.bell(), 0);
        due("now(3)", x.now(3), 0);
        due("now(0)", x.now(0), 1);
    }

    private static void promise13_oneAndNineLent() {
        due("one", lent(Edges.WHOLE, 8, 5).bell(), 1);
        KneesLent x = lent(Edges.WHOLE, 0, 0, 1, 0, 2, 1, 3, 1, 4, 2, 5, 2, 6, 3, 7, 3, 8, 5);
        due("nine", x.bell(), 9);
        due("nine again", x.bell(), 9);
        due("now(3)", x.now(3), 18);
    }

    private static void promise13_broughtBackAheadOfTheBell() {
        KneesLent x = lent(Edges.WHOLE, 8, 5, 0, 0);
        x.brings(8);
        due("still lent", x.bell(), 1);
    }

    /** More than 512 calls: what they answer is free, but the limit is told. */
    private static void promise13_day999IsTheLast() {
        KneesLent x = lent("k0 0 9;p1 0 0;", 0, 0);
        for (int day = 1; day <= 999; day++) {
            due("bell()", x.bell(), 1);
            due("now(0)", x.now(0), day);
        }
        due("on the last day", x.bell(), STATE);
        due("now(0)", x.now(0), 999);
        due("now(3)", x.now(3), 999);
        due("now(7)", x.now(7), 10);
        due("undo()", x.undo(), 9);
        due("now(0)", x.now(0), 998);
        due("bell()", x.bell(), 1);
        due("bell()", x.bell(), STATE);
    }

    // ---- promise 14

    private static void promise14_none() {
        Edges.changesNothing("of a new object", KneesLent::new, STATE, x -> x.undo());
        Edges.changesNothing("of a parish just read", Edges::small, STATE, x -> x.undo());
    }

    private static void promise14_theTenthAndTheEleventh() {
        KneesLent x = Edges.small();
        x.lends(0, 0);
        for (int i = 0; i < 10; i++) {
            x.bell();
        }
        for (int more = 9; more >= 0; more--) {
            due("undo()", x.undo(), more);
        }
        due("the eleventh is lost", x.undo(), STATE);
        due("day", x.now(0), 0);
        due("the lending stays", x.knee(0, 3), 0);
    }

    private static void promise14_tenAreKnown() {
        KneesLent x = Edges.small();
        x.lends(0, 0);
        for (int i = 0; i < 9; i++) {
            x.bell();
        }
        for (int more = 9; more >= 0; more--) {
            due("undo()", x.undo(), more);
        }
        due("the tenth, the lending", x.knee(0, 3), NONE);
        due("none", x.undo(), STATE);
    }

    private static void promise14_moreThanTwiceTen() {
        KneesLent x = Edges.small();
        for (int i = 0; i < 23; i++) {
            x.bell();
        }
        for (int day = 22; day >= 13; day--) {
            due("undo()", x.undo(), day - 13);
            due("day", x.now(0), day);
        }
        due("none", x.undo(), STATE);
        due("day", x.now(0), 13);
    }

    private static void promise14_doneAgainBehindUndo() {
        KneesLent x = Edges.small();
        for (int i = 0; i < 12; i++) {
            x.bell();
        }
        for (int i = 0; i < 4; i++) {
            x.undo();
        }
        for (int i = 0; i < 5; i++) {
            x.pledges(i, 1);
        }
        due("ten again", x.now(7), 10);
        for (int i = 0; i < 5; i++) {
            due("a pledge", x.undo(), 9 - i);
        }
        due("day", x.now(0), 8);
        for (int i = 0; i < 5; i++) {
            due("a bell", x.undo(), 4 - i);
        }
        due("day", x.now(0), 3);
        due("none", x.undo(), STATE);
    }

    private static void undoneBehind(String what, Edges.Start start, Edges.Call deed) {
        KneesLent x = start.make();
        deed.on(x);
        due(what + ", undone", x.undo(), start.make().now(7));
        due(what + ", as it was", Edges.look(x).equals(Edges.look(start.make())) ? 1 : 0, 1);
    }

    private static KneesLent threeDone() {
        KneesLent x = lent("k0 0 9;k1 0 5;k0 1 9;p3 0 0;p1 0 0;o0 3;", 0, 0, 1, 0);
        x.bell();
        return x;
    }

    private static void promise14_eachDeed() {
        undoneBehind("lends(2, 1)", DeedsEdgesTest::threeDone, x -> x.lends(2, 1));
        undoneBehind("walks(0, 0, 3)", DeedsEdgesTest::threeDone, x -> x.walks(0, 0, 3));
        undoneBehind("walks(0, 0, 0)", DeedsEdgesTest::threeDone, x -> x.walks(0, 0, 0));
        undoneBehind("brings(1)", DeedsEdgesTest::threeDone, x -> x.brings(1));
        undoneBehind("pledges(2, 1)", DeedsEdgesTest::threeDone, x -> x.pledges(2, 1));
        undoneBehind("bell()", DeedsEdgesTest::threeDone, x -> x.bell());
    }

    private static void promise14_refusedDeedsAreNotKnown() {
        KneesLent x = threeDone();
        due("lends", x.lends(0, 0), STATE);
        due("lends", x.lends(0, 2), BAD);
        due("walks", x.walks(1, 0, 0), STATE);
        due("walks", x.walks(0, 21, 0), BAD);
        due("brings", x.brings(2), STATE);
        due("brings", x.brings(3), BAD);
        due("pledges", x.pledges(0, 1), STATE);
        due("pledges", x.pledges(2, 2), BAD);
        due("now(7)", x.now(7), 3);
        due("undo() of the bell", x.undo(), 2);
        due("day", x.now(0), 0);
    }

    private static void promise14_otherCallsAreNotKnown() {
        KneesLent x = threeDone();
        x.keep(0);
        x.tells(0, 1, 2);
        x.felt(0, 1);
        x.rate(5, 0);
        x.type('?');
        x.parish();
        x.clear();
        x.forget();
        x.most(0);
        due("now(7)", x.now(7), 3);
        due("undo() of the bell", x.undo(), 2);
        due("day", x.now(0), 0);
    }

    private static void promise14_undoIsNotUndone() {
        KneesLent x = threeDone();
        x.undo();
        due("undo()", x.undo(), 1);
        due("undo()", x.undo(), 0);
        due("undo()", x.undo(), STATE);
    }

    private static void promise14_noneBehindBack() {
        KneesLent x = threeDone();
        x.keep(0);
        x.bell();
        x.back(0);
        due("undo()", x.undo(), STATE);
        x.bell();
        due("undo() of what came behind", x.undo(), 0);
        due("undo()", x.undo(), STATE);
        due("day", x.now(0), 1);
    }

    private static void promise14_noneBehindParish() {
        KneesLent x = threeDone();
        x.parish();
        due("undo()", x.undo(), STATE);
    }

    private static void promise14_whatElseWasIsNotUndone() {
        KneesLent x = threeDone();
        x.bell();
        x.tells(0, 1, 2);
        x.felt(1, 0);
        x.rate(0, 0);
        x.keep(1);
        x.type('k');
        due("undo()", x.undo(), 3);
        due("told", x.count(2), 1);
        due("felt", x.count(3), 1);
        due("letters", x.count(4), 1);
        due("trace", x.trace(), 1);
        due("image", x.back(1), 2);
    }

    public static void main(String[] args) throws Exception {
        Edges.run(DeedsEdgesTest.class, 9, 14);
    }
}
