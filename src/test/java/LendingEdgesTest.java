/** The edges of promises 15 to 20: lending. */
public final class LendingEdgesTest {
    private static final int BAD = Edges.BAD, NONE = Edges.NONE;

    private LendingEdgesTest() {
    }

    private static void due(String call, long got, long want) {
        Due.due(call, got, want);
    }

    private static KneesLent pledged(String text, int... knees) {
        KneesLent x = Due.read(text);
        for (int k : knees) {
            x.pledges(k, 1);
        }
        return x;
    }

    /** The first knee has been worn by so many steps up, and is at home. */
    private static KneesLent worn(String text, int steps) {
        KneesLent x = Due.read(text);
        x.lends(0, 0);
        x.walks(0, steps, 0);
        x.brings(0);
        return x;
    }

    // ---- promise 15

    private static void promise15_kneesAndPeopleThereAre() {
        Edges.range("canGo(.., 0)", Edges::busy, 0, 4, (x, k) -> x.canGo(k, 0));
        Edges.range("canGo(0, ..)", Edges::busy, 0, 2, (x, p) -> x.canGo(0, p));
        Edges.range("canGo(.., 0) of nine", Edges::whole, 0, 8, (x, k) -> x.canGo(k, 0));
        Edges.range("canGo(0, ..) of six", Edges::whole, 0, 5, (x, p) -> x.canGo(0, p));
    }

    private static void promise15_justEnoughAndOneTooFew() {
        due("10 of 10", Due.read("k0 0 10;p1 4 3;").canGo(0, 0), 1);
        due("10 of 9", Due.read("k0 0 9;p1 4 3;").canGo(0, 0), 0);
        due("60 of 60", Due.read("k1 0 60;p2 20 20;").canGo(0, 0), 1);
        due("60 of 59", Due.read("k1 0 59;p2 20 20;").canGo(0, 0), 0);
    }

    private static void promise15_byWhatIsLeftNotBySteps() {
        due("10 left", worn("k0 0 12;p1 4 3;", 2).canGo(0, 0), 1);
        due("9 left", worn("k0 0 12;p1 4 3;", 3).canGo(0, 0), 0);
    }

    private static void promise15_nothingLeftForOneWhoGoesNowhere() {
        due("0 of 0", worn("k0 0 12;p1 0 0;p1 1 0;", 12).canGo(0, 0), 1);
        due("1 of 0", worn("k0 0 12;p1 0 0;p1 1 0;", 12).canGo(0, 1), 0);
    }

    private static void promise15_theSideThatHeNeeds() {
        int[][] want = {{1, 0}, {0, 1}, {1, 1}};
        for (int needs = 1; needs <= 3; needs++) {
            KneesLent x = Due.read("k0 0 9;k1 0 9;p" + needs + " 0 0;");
            due("a left for NEEDS " + needs, x.canGo(0, 0), want[needs - 1][0]);
            due("a right for NEEDS " + needs, x.canGo(1, 0), want[needs - 1][1]);
        }
    }

    private static void promise15_notAtHomeNorInPledge() {
        KneesLent x = pledged("k0 0 9;k0 0 9;p1 0 0;p1 0 0;", 0);
        due("in pledge", x.canGo(0, 0), 0);
        x.lends(1, 0);
        due("lent to him", x.canGo(1, 0), 0);
        due("lent to another", x.canGo(1, 1), 0);
        x.brings(1);
        x.pledges(0, 0);
        due("not in pledge any more", x.canGo(0, 0), 1);
        due("home again", x.canGo(1, 1), 1);
    }

    private static void promise15_whateverHeHas() {
        KneesLent x = Due.read("k0 0 9;k0 0 9;k1 1 9;p3 0 0;x0 1;");
        x.lends(0, 0);
        due("a second left", x.canGo(1, 0), 1);
        due("a right of a farm that does not speak", x.canGo(2, 0), 1);
    }

    private static void promise15_nothingIsChanged() {
        Edges.onlyAsks("canGo(0, 0)", x -> x.canGo(0, 0));
        Edges.onlyAsks("canGo(3, 2)", x -> x.canGo(3, 2));
    }

    // ---- promise 16

    private static void promise16_bitsOfPeopleThereAre() {
        Edges.range("lending of three", Edges::busy, 0, 7, (x, set) -> x.lending(set));
        Edges.range("lending of six", Edges::whole, 0, 63, (x, set) -> x.lending(set));
        Edges.range("lending of one", () -> Due.read("p1 0 0;"), 0, 1, (x, set) -> x.lending(set));
        Edges.range("lending of none", KneesLent::new, 0, 0, (x, set) -> x.lending(set));
    }

    private static void promise16_forNobody() {
        due("no knees", Due.read("p1 0 0;").lending(0), 0);
        due("knees", Edges.small().lending(0), 0);
        due("all in pledge", pledged("k0 0 1;", 0).lending(0), 0);
    }

    private static void promise16_noneIsNotOilNone() {
        due("free of oil", Due.read("k0 0 1;p1 0 0;o0 0;").lending(1), 0);
        due("there is none", Due.read("k1 0 1;p1 0 0;o0 0;").lending(1), NONE);
    }

    private static void promise16_justEnoughStepsAndOneTooFew() {
        due("enough", Due.read("k0 0 10;p1 4 3;").lending(1), 1);
        due("one too few", Due.read("k0 0 9;p1 4 3;").lending(1), NONE);
    }

    private static void promise16_justEnoughKneesAndOneTooFew() {
        String people = "p3 0 0;p3 0 0;p1 0 0;";
        String knees = "k0 0 1;k0 0 1;k1 0 1;k1 0 1;";
        due("enough", Due.read(knees + "k0 0 1;" + people).lending(7), 5);
        due("one left too few", Due.read(knees + "k1 0 1;" + people).lending(7), NONE);
        due("for two", Due.read(knees + people).lending(3), 4);
    }

    private static void promise16_mostOil() {
        String text = "k0 0 1;k1 0 1;".repeat(4) + "k1 0 1;" + "p3 0 0;".repeat(4) + "p2 0 0;o0 9;";
        due("nine knees, 9 each", Due.read(text).lending(31), 81);
    }

    private static void promise16_leastOilByOne() {
        due("the second", Due.read("k0 0 1;k0 1 1;p1 0 0;o0 3;o1 2;").lending(1), 2);
        due("the first", Due.read("k0 0 1;k0 1 1;p1 0 0;o0 3;o1 4;").lending(1), 3);
        // The cheapest left one has no right one that its farm speaks with.
        due("a dearer pair", Due.read("k0 0 1;k1 1 1;k0 2 1;p3 0 0;o0 0;o1 3;o2 4;x0 1;").lending(1), 7);
    }

    private static void promise16_farmsThatDoNotSpeak() {
        due("a pair of two", Due.read("k0 0 9;k1 1 9;p3 0 0;x1 0;").lending(1), NONE);
        due("two of a kind", Due.read("k0 0 9;k1 1 9;p1 0 0;p2 0 0;x1 0;").lending(3), 2);
        due("of one farm", Due.read("k0 0 9;k1 0 9;p3 0 0;x1 0;").lending(1), 2);
    }

    private static void promise16_whateverHeHas() {
        KneesLent x = Due.read("k0 0 9;k1 0 9;k0 0 9;k1 1 9;p3 0 0;x0 1;");
        x.lends(0, 0);
        x.lends(1, 0);
        due("he has a pair, and no other can go", x.lending(1), NONE);
        x.brings(1);
        due("he has a left", x.lending(1), 2);
        due("the second left", x.kneeFor(1, 0, 0), 2);
    }

    private static void promise16_nothingIsChanged() {
        for (int set = 0; set < 8; set++) {
            int bits = set;
            Edges.onlyAsks("lending(" + bits + ")", x -> x.lending(bits));
        }
    }

    // ---- promise 17

    private static void promise17_bitsOfPeopleThereAre() {
        Edges.range("kneeFor(.., 0, 0) of three", Edges::busy, 1, 7, (x, set) -> x.kneeFor(set, 0, 0));
        Edges.outside("kneeFor(.., 0, 0) of three", Edges::busy, BAD, 0, 7, (x, set) -> x.kneeFor(set, 0, 0));
        Edges.range("kneeFor(.., 0, 0) of six", Edges::whole, 1, 63, (x, set) -> x.kneeFor(set, 0, 0));
        Edges.outside("kneeFor(.., 0, 0) of six, a bit more", Edges::whole, BAD, 0, 64, (x, set) -> x.kneeFor(set, 0, 0));
    }

    private static void promise17_peopleThereAre() {
        Edges.range("kneeFor(7, .., 0)", Edges::busy, 0, 2, (x, p) -> x.kneeFor(7, p, 0));
        Edges.range("kneeFor(63, .., 0)", Edges::whole, 0, 5, (x, p) -> x.kneeFor(63, p, 0));
        Edges.changesNothing("kneeFor(1, 32, 0)", Edges::busy, BAD, x -> x.kneeFor(1, 32, 0));
        Edges.changesNothing("kneeFor(2, -31, 0)", Edges::busy, BAD, x -> x.kneeFor(2, -31, 0));
    }

    private static void promise17_sides() {
        Edges.range("kneeFor(1, 0, ..)", Edges::small, 0, 1, (x, side) -> x.kneeFor(1, 0, side));
        Edges.range("kneeFor(32, 5, ..)", Edges::whole, 0, 1, (x, side) -> x.kneeFor(32, 5, side));
    }

    private static void promise17_heIsNotInTheSet() {
        Edges.changesNothing("kneeFor(6, 0, 0)", Edges::small, BAD, x -> x.kneeFor(6, 0, 0));
        Edges.changesNothing("kneeFor(5, 1, 0)", Edges::small, BAD, x -> x.kneeFor(5, 1, 0));
        Edges.changesNothing("kneeFor(3, 2, 1)", Edges::small, BAD, x -> x.kneeFor(3, 2, 1));
        Edges.changesNothing("kneeFor(0, 0, 0)", Edges::small, BAD, x -> x.kneeFor(0, 0, 0));
    }

    private static void promise17_badAheadOfNone() {
        Edges.Start poor = () -> Due.read("p1 0 0;p1 0 0;");
        due("no LENDING", poor.make().kneeFor(1, 0, 0), NONE);
        Edges.changesNothing("not in the set, no LENDING", poor, BAD, x -> x.kneeFor(1, 1, 0));
        Edges.changesNothing("no such side, no LENDING", poor, BAD, x -> x.kneeFor(1, 0, 2));
        Edges.changesNothing("no such set, no LENDING", poor, BAD, x -> x.kneeFor(5, 0, 0));
    }

    private static void promise17_noneOfASideThatHeDoesNotNeed() {
        KneesLent x = Due.read("k0 0 1;k1 0 1;p1 0 0;p2 0 0;");
        due("a left", x.kneeFor(3, 0, 0), 0);
        due("no right", x.kneeFor(3, 0, 1), NONE);
        due("no left", x.kneeFor(3, 1, 0), NONE);
        due("a right", x.kneeFor(3, 1, 1), 1);
    }

    private static void promise17_noneWithoutALending() {
        KneesLent x = Due.read("k0 0 1;p1 0 0;p1 0 0;");
        due("one can go", x.kneeFor(1, 0, 0), 0);
        due("two can not: the first", x.kneeFor(3, 0, 0), NONE);
        due("two can not: the second", x.kneeFor(3, 1, 0), NONE);
    }

    private static void promise17_theNinthKnee() {
        KneesLent x = pledged("k0 0 1;".repeat(8) + "k1 4 1;p3 0 0;", 0, 1, 2, 3, 4, 5, 6);
        due("left", x.kneeFor(1, 0, 0), 7);
        due("right", x.kneeFor(1, 0, 1), 8);
    }

    private static void has(String text, int set, int... want) {
        KneesLent x = Due.read(text);
        for (int p = 0; 2 * p + 1 < want.length; p++) {
            due("left of " + p + " by " + text, x.kneeFor(set, p, 0), want[2 * p]);
            due("right of " + p + " by " + text, x.kneeFor(set, p, 1), want[2 * p + 1]);
        }
    }

    private static void promise17_ofSeveralTheFirst() {
        has("k0 0 1;k0 0 1;k1 0 1;k1 0 1;p3 0 0;p3 0 0;", 3, 0, 2, 1, 3);
        has("k1 0 1;k1 0 1;k0 0 1;k0 0 1;p3 0 0;p3 0 0;", 3, 2, 0, 3, 1);
        // The left one is looked at ahead of the right one: 0 with 3, not 1 with 2.
        has("k0 0 1;k0 1 1;k1 1 1;k1 0 1;p3 0 0;x0 1;", 1, 0, 3);
        // The first of the set is looked at ahead of the second, but only within the least oil.
        has("k0 0 1;k0 1 1;p1 0 0;p1 1 0;", 3, 0, NONE, 1, NONE);
        has("k0 0 1;k0 1 1;k0 2 1;p1 0 0;p1 0 0;o0 2;o1 1;o2 1;", 3, 1, NONE, 2, NONE);
    }

    private static void promise17_theFirstGivesWay() {
        has("k0 0 9;k0 0 1;p1 0 0;p1 9 0;", 3, 1, NONE, 0, NONE);
        has("k0 0 8;k0 0 1;p1 0 0;p1 9 0;", 3, NONE, NONE, NONE, NONE);
    }

    private static void promise17_onlyThoseOfTheSet() {
        KneesLent x = Due.read("k0 0 1;k0 0 1;k0 0 1;p1 0 0;p1 0 0;p1 0 0;");
        due("the last alone", x.kneeFor(4, 2, 0), 0);
        due("the last of two", x.kneeFor(6, 2, 0), 1);
        due("the last of three", x.kneeFor(7, 2, 0), 2);
    }

    private static void promise17_nothingIsChanged() {
        Edges.onlyAsks("kneeFor(4, 2, 1)", x -> x.kneeFor(4, 2, 1));
        Edges.onlyAsks("kneeFor(7, 0, 0)", x -> x.kneeFor(7, 0, 0));
    }

    // ---- promise 18

    private static void most(KneesLent x, int which, int many, int oil) {
        due("most(0)", x.most(0), which);
        due("most(1)", x.most(1), many);
        due("most(2)", x.most(2), oil);
    }

    private static void promise18_whats() {
        Edges.range("most", Edges::busy, 0, 2, (x, what) -> x.most(what));
    }

    private static void promise18_nobody() {
        most(new KneesLent(), 0, 0, 0);
        most(Due.read("k0 0 1;"), 0, 0, 0);
        most(Due.read("p1 0 0;"), 0, 0, 0);
        most(Due.read("k0 0 1;p1 0 1;"), 0, 0, 0);
    }

    private static void promise18_all() {
        most(Due.read("k0 0 1;p1 1 0;"), 1, 1, 1);
        most(Due.read("k0 4 60;".repeat(6) + "p1 20 20;".repeat(6) + "o4 9;"), 63, 6, 54);
        most(Due.read("k0 4 60;".repeat(5) + "p1 20 20;".repeat(6) + "o4 9;"), 31, 5, 45);
    }

    private static void promise18_mostPeopleAheadOfLeastOil() {
        most(Due.read("k0 0 9;k1 1 9;p1 0 0;p2 0 0;o0 9;o1 0;"), 3, 2, 9);
    }

    private static void promise18_leastOilAheadOfLeastBits() {
        // One left knee each is for the first or the second: the second's costs one less.
        most(Due.read("k0 0 9;k0 1 1;k1 0 1;p3 5 0;p1 0 0;x0 1;o0 3;o1 2;"), 2, 1, 2);
        most(Due.read("k0 0 9;k1 1 9;p1 5 0;p3 5 0;o0 3;o1 2;"), 1, 1, 3);
        most(Due.read("k0 0 9;k1 0 9;p3 0 0;p1 0 0;o0 2;x0 1;k1 1 9;o1 1;p2 0 0;"), 6, 2, 3);
    }

    private static void promise18_leastBits() {
        most(Due.read("k0 0 1;p1 0 0;p1 0 0;p1 0 0;"), 1, 1, 1);
        most(Due.read("k0 0 1;k0 0 1;p1 0 0;p1 0 0;p1 0 0;"), 3, 2, 2);
        most(Due.read("k0 0 1;p1 2 0;p1 0 0;p1 0 0;"), 2, 1, 1);
        // Bits 5 and 6 have as many people; the third goes by the only right one, the first by the only left one.
        most(Due.read("k0 0 1;k1 0 1;p1 0 0;p1 0 0;p2 0 0;"), 5, 2, 2);
    }

    private static void promise18_byWhatIsLeft() {
        most(worn("k0 0 12;p1 4 3;", 2), 1, 1, 1);
        most(worn("k0 0 12;p1 4 3;", 3), 0, 0, 0);
    }

    private static void promise18_nothingIsChanged() {
        for (int what = 0; what < 3; what++) {
            int asked = what;
            Edges.onlyAsks("most(" + asked + ")", x -> x.most(asked));
        }
    }

    // ---- promise 19

    private static void promise19_kneesAndPeopleThereAre() {
        Edges.range("span(.., 0)", Edges::busy, 0, 4, (x, k) -> x.span(k, 0));
        Edges.range("span(0, ..)", Edges::busy, 0, 2, (x, p) -> x.span(0, p));
        Edges.range("span(.., 5) of nine", Edges::whole, 0, 8, (x, k) -> x.span(k, 5));
        Edges.range("span(8, ..) of six", Edges::whole, 0, 5, (x, p) -> x.span(8, p));
    }

    private static void promise19_justSoOftenAndOneStepTooFew() {
        due("30 by 10", Due.read("k0 0 30;p1 4 3;").span(0, 0), 3);
        due("29 by 10", Due.read("k0 0 29;p1 4 3;").span(0, 0), 2);
        due("31 by 10", Due.read("k0 0 31;p1 4 3;").span(0, 0), 3);
        due("10 by 10", Due.read("k0 0 10;p1 4 3;").span(0, 0), 1);
        due("9 by 10", Due.read("k0 0 9;p1 4 3;").span(0, 0), 0);
    }

    private static void promise19_mostAndFewest() {
        due("60 by 1", Due.read("k0 0 60;p1 1 0;").span(0, 0), 60);
        due("60 by 2", Due.read("k0 0 60;p1 0 1;").span(0, 0), 30);
        due("60 by 60", Due.read("k0 0 60;p1 20 20;").span(0, 0), 1);
        due("59 by 60", Due.read("k0 0 59;p1 20 20;").span(0, 0), 0);
    }

    private static void promise19_alwaysByNoWear() {
        due("of 60", Due.read("k0 0 60;p1 0 0;").span(0, 0), NONE);
        due("of none", worn("k0 0 5;p1 0 0;", 5).span(0, 0), NONE);
        due("by one step it is not", worn("k0 0 5;p1 1 0;", 5).span(0, 0), 0);
    }

    private static void promise19_badAheadOfNone() {
        Edges.changesNothing("no such knee, no wear", () -> Due.read("p1 0 0;"), BAD, x -> x.span(0, 0));
    }

    private static void promise19_byWhatIsLeft() {
        due("10 left", worn("k0 0 30;p1 4 3;", 20).span(0, 0), 1);
        due("9 left", worn("k0 0 29;p1 4 3;", 20).span(0, 0), 0);
    }

    private static void promise19_nothingIsChanged() {
        Edges.onlyAsks("span(0, 0)", x -> x.span(0, 0));
        Edges.onlyAsks("span(3, 1)", x -> x.span(3, 1));
    }

    // ---- promise 20

    private static void gives(String text, int n, int a, int b, int x, int upper, int lower) {
        KneesLent knees = Due.read(text);
        String call = "gives(0, " + n + ", " + a + ", " + b + ", " + x + ", ..) of " + text;
        due(call + " upper", knees.gives(0, n, a, b, x, 0), upper);
        due(call + " lower", knees.gives(0, n, a, b, x, 1), lower);
    }

    private static void promise20_kneesThereAre() {
        Edges.range("gives(.., 1, 1, 1, 1, 0)", Edges::busy, 0, 4, (x, k) -> x.gives(k, 1, 1, 1, 1, 0));
        Edges.range("gives(.., 1, 1, 1, 1, 1) of nine", Edges::whole, 0, 8, (x, k) -> x.gives(k, 1, 1, 1, 1, 1));
    }

    private static void promise20_days() {
        Edges.range("gives(0, .., 1, 1, 1, 0)", Edges::busy, 0, 6, (x, n) -> x.gives(0, n, 1, 1, 1, 0));
    }

    private static void promise20_wearOfADay() {
        Edges.range("gives(0, 1, .., 1, 1, 0)", Edges::busy, 0, 30, (x, a) -> x.gives(0, 1, a, 1, 1, 0));
        Edges.range("gives(0, 1, 1, .., 1, 0)", Edges::busy, 0, 30, (x, b) -> x.gives(0, 1, 1, b, 1, 0));
    }

    private static void promise20_ofTen() {
        Edges.range("gives(0, 1, 1, 1, .., 0)", Edges::busy, 0, 10, (x, of) -> x.gives(0, 1, 1, 1, of, 0));
    }

    private static void promise20_whats() {
        Edges.range("gives(0, 1, 1, 1, 1, ..)", Edges::busy, 0, 1, (x, what) -> x.gives(0, 1, 1, 1, 1, what));
    }

    private static void promise20_noDays() {
        gives("k0 0 1;", 0, 30, 30, 5, 0, 1);
        KneesLent wornOff = worn("k0 0 1;p1 0 0;", 1);
        due("none left, upper", wornOff.gives(0, 0, 30, 30, 10, 0), 0);
        due("none left, lower", wornOff.gives(0, 0, 30, 30, 10, 1), 1);
    }

    private static void promise20_asMuchAsIsLeftAndOneMore() {
        gives("k0 0 9;", 1, 9, 0, 5, 0, 1);
        gives("k0 0 9;", 1, 10, 0, 5, 1, 2);
        gives("k0 0 9;", 1, 0, 9, 5, 0, 1);
        gives("k0 0 9;", 1, 0, 10, 5, 1, 2);
        gives("k0 0 9;", 3, 3, 3, 5, 0, 1);
        gives("k0 0 8;", 3, 3, 3, 5, 1, 1);
        gives("k0 0 60;", 2, 30, 30, 5, 0, 1);
        gives("k0 0 59;", 2, 30, 30, 5, 1, 1);
    }

    private static void promise20_nothingLeft() {
        KneesLent x = worn("k0 0 1;p1 0 0;", 1);
        due("wear 0", x.gives(0, 1, 0, 0, 5, 0), 0);
        due("wear 1, upper", x.gives(0, 1, 1, 0, 5, 0), 1);
        due("wear 1, lower", x.gives(0, 1, 1, 0, 5, 1), 2);
    }

    private static void promise20_neverAndAlways() {
        gives("k0 0 9;", 1, 10, 0, 0, 0, 1);
        gives("k0 0 9;", 1, 10, 0, 1, 1, 10);
        gives("k0 0 9;", 1, 10, 0, 9, 9, 10);
        gives("k0 0 9;", 1, 10, 0, 10, 1, 1);
        gives("k0 0 9;", 6, 0, 30, 10, 0, 1);
        gives("k0 0 9;", 6, 30, 0, 10, 1, 1);
    }

    private static void promise20_leastTerms() {
        gives("k0 0 9;", 1, 10, 0, 2, 1, 5);
        gives("k0 0 9;", 1, 10, 0, 4, 2, 5);
        gives("k0 0 9;", 1, 10, 0, 6, 3, 5);
        gives("k0 0 9;", 1, 10, 0, 8, 4, 5);
        gives("k0 0 9;", 1, 10, 0, 3, 3, 10);
        gives("k0 0 9;", 2, 5, 0, 5, 1, 4);
        gives("k0 0 9;", 2, 5, 0, 2, 1, 25);
        gives("k0 0 9;", 2, 5, 4, 1, 1, 100);
    }

    private static void promise20_sixDays() {
        gives("k0 0 30;", 6, 30, 0, 1, 22853, 200000);
        gives("k0 0 1;", 6, 30, 0, 1, 468559, 1000000);
        gives("k0 0 1;", 6, 30, 0, 9, 999999, 1000000);
        gives("k0 0 59;", 6, 10, 0, 1, 1, 1000000);
        gives("k0 0 60;", 6, 10, 0, 1, 0, 1);
        gives("k0 0 59;", 6, 10, 0, 5, 1, 64);
    }

    private static void promise20_nothingIsChanged() {
        Edges.onlyAsks("gives(0, 6, 3, 1, 5, 0)", x -> x.gives(0, 6, 3, 1, 5, 0));
        Edges.onlyAsks("gives(0, 6, 3, 1, 5, 1)", x -> x.gives(0, 6, 3, 1, 5, 1));
    }

    public static void main(String[] args) throws Exception {
        Edges.run(LendingEdgesTest.class, 15, 20);
    }
}
