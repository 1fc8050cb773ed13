/** The edges of promises 1 to 8: the parish. */
public final class ParishEdgesTest {
    private static final int BAD = Edges.BAD, STATE = Edges.STATE, FULL = Edges.FULL, NONE = Edges.NONE, NO = Edges.NO;
    private static final String FIVE_FARMS = "k0 0 1;k0 1 1;k0 2 1;k0 3 1;k0 4 1;";

    private ParishEdgesTest() {
    }

    private static void due(String call, long got, long want) {
        Due.due(call, got, want);
    }

    // ---- promise 1

    private static void promise01_noKneesNobody() {
        KneesLent x = new KneesLent();
        due("count(0)", x.count(0), 0);
        due("count(1)", x.count(1), 0);
        due("knee(0, 0)", x.knee(0, 0), BAD);
        due("person(0, 0)", x.person(0, 0), BAD);
        due("now(1)", x.now(1), 0);
        due("now(5)", x.now(5), NONE);
        due("now(6)", x.now(6), 0);
    }

    private static void promise01_dayZeroAndNothingDone() {
        KneesLent x = new KneesLent();
        for (int what : new int[] {0, 2, 3, 4, 7}) {
            due("now(" + what + ")", x.now(what), 0);
        }
        due("undo()", x.undo(), STATE);
        due("trace()", x.trace(), 0);
    }

    private static void promise01_nothingToldFeltKeptTyped() {
        KneesLent x = new KneesLent();
        due("count(2)", x.count(2), 0);
        due("count(3)", x.count(3), 0);
        due("count(4)", x.count(4), 0);
        due("back(0)", x.back(0), STATE);
        due("back(1)", x.back(1), STATE);
        due("clear()", x.clear(), 0);
        due("forget()", x.forget(), 0);
    }

    private static void promise01_farmsAreThereWithOilOne() {
        KneesLent x = new KneesLent();
        for (int f = 0; f < 5; f++) {
            due("farm(f, 0)", x.farm(f, 0), 1);
            due("farm(f, 1)", x.farm(f, 1), 0);
            due("farm(f, 2)", x.farm(f, 2), 0);
            due("farm(f, 3)", x.farm(f, 3), NONE);
        }
    }

    private static void promise01_noThingToAskForIsRefused() {
        Edges.Start fresh = KneesLent::new;
        Edges.changesNothing("lends(0, 0)", fresh, BAD, x -> x.lends(0, 0));
        Edges.changesNothing("walks(0, 0, 0)", fresh, BAD, x -> x.walks(0, 0, 0));
        Edges.changesNothing("brings(0)", fresh, BAD, x -> x.brings(0));
        Edges.changesNothing("pledges(0, 1)", fresh, BAD, x -> x.pledges(0, 1));
        Edges.changesNothing("canGo(0, 0)", fresh, BAD, x -> x.canGo(0, 0));
        Edges.changesNothing("lending(1)", fresh, BAD, x -> x.lending(1));
        Edges.changesNothing("kneeFor(0, 0, 0)", fresh, BAD, x -> x.kneeFor(0, 0, 0));
        Edges.changesNothing("span(0, 0)", fresh, BAD, x -> x.span(0, 0));
        Edges.changesNothing("gives(0, 0, 0, 0, 0, 0)", fresh, BAD, x -> x.gives(0, 0, 0, 0, 0, 0));
        Edges.changesNothing("tells(0, 0, 0)", fresh, BAD, x -> x.tells(0, 0, 0));
        Edges.changesNothing("rate(0, 0)", fresh, NO, x -> x.rate(0, 0));
    }

    private static void promise01_whatNobodyNeeds() {
        KneesLent x = new KneesLent();
        due("lending(0)", x.lending(0), 0);
        due("most(0)", x.most(0), 0);
        due("rain(0)", x.rain(0), 1);
        due("felt(0, 1)", x.felt(0, 1), 1);
        due("keep(0)", x.keep(0), 0);
        due("bell()", x.bell(), 0);
        due("parish()", x.parish(), 0);
    }

    // ---- promise 2

    private static void promise02_lettersFrom0To255() {
        KneesLent x = new KneesLent();
        due("type(0)", x.type(0), 1);
        due("type(255)", x.type(255), 2);
        Edges.outside("type", Edges::busy, BAD, 0, 255, (y, letter) -> y.type(letter));
    }

    private static void promise02_the180thLetterIsTheLast() {
        KneesLent x = new KneesLent();
        for (int many = 1; many <= 180; many++) {
            due("type(32)", x.type(32), many);
        }
        due("type(32), the 181st", x.type(32), FULL);
        due("count(4)", x.count(4), 180);
    }

    private static KneesLent fullText() {
        return Edges.busyWith(" ".repeat(173) + "k0 4 8;");
    }

    private static void promise02_theLetterThatComesTooLate() {
        Edges.changesNothing("type(';') of 181", ParishEdgesTest::fullText, FULL, x -> x.type(';'));
        KneesLent x = Edges.busyWith(" ".repeat(174) + "k0 4 8");
        due("type(';') of 181", x.type(';'), FULL);
        due("parish() of 180 letters that end too early", x.parish(), -190);
    }

    private static void promise02_badAheadOfFull() {
        Edges.outside("type of 181", ParishEdgesTest::fullText, BAD, 0, 255, (x, letter) -> x.type(letter));
    }

    private static void promise02_roomAgainBehindClearAndParish() {
        KneesLent x = fullText();
        due("clear()", x.clear(), 180);
        due("type(107)", x.type(107), 1);
        KneesLent y = fullText();
        due("parish()", y.parish(), 1);
        due("type(107)", y.type(107), 1);
    }

    private static void promise02_aFaultLeavesTheTextFull() {
        KneesLent x = Edges.busyWith(" ".repeat(179) + "?");
        due("parish()", x.parish(), -189);
        due("type(107)", x.type(107), FULL);
    }

    // ---- promise 3

    private static void promise03_emptyOneAndFull() {
        KneesLent x = new KneesLent();
        due("clear() of no letter", x.clear(), 0);
        x.type(0);
        due("clear() of one", x.clear(), 1);
        due("clear() again", x.clear(), 0);
        due("clear() of 180", fullText().clear(), 180);
    }

    private static void promise03_lettersBeforeAreNotRead() {
        KneesLent x = new KneesLent();
        Due.typeAll(x, "k0 0 1;k0 0 1;");
        x.clear();
        Due.typeAll(x, "p1 0 0;");
        due("parish()", x.parish(), 1);
        due("count(0)", x.count(0), 0);
    }

    private static void promise03_theParishStays() {
        Edges.changesNothing("clear() of no letter", () -> Edges.busyWith(""), 0, x -> x.clear());
        KneesLent x = Edges.busy();
        due("clear()", x.clear(), 14);
        due("as it was", Edges.look(x).equals(Edges.look(Edges.busyWith(""))) ? 1 : 0, 1);
    }

    // ---- promise 4: texts that can be read

    private static KneesLent told(String text, int items) {
        KneesLent x = Edges.busyWith(text);
        due("parish() of '" + text + "'", x.parish(), items);
        due("letters behind '" + text + "'", x.count(4), 0);
        return x;
    }

    private static void promise04_theEmptyText() {
        KneesLent x = told("", 0);
        due("as new but for the trace", Edges.look(x).equals(Edges.look(new KneesLent()).replace("trace 0", "trace 1011")) ? 1 : 0, 1);
        due("blanks alone", told("   ", 0).count(0), 0);
        due("180 blanks", told(" ".repeat(180), 0).count(0), 0);
    }

    private static void promise04_theFullText() {
        KneesLent x = told(" ".repeat(173) + "k1 4 6;", 1);
        due("knee(0, 2)", x.knee(0, 2), 6);
        due("blanks at the end", told("k0 0 1;" + " ".repeat(173), 1).count(0), 1);
        due("36 items, no letter to spare", told("x0 1;".repeat(36), 36).farm(0, 1), 2);
    }

    private static void promise04_nineKneesSixPeople() {
        KneesLent x = told("k0 0 1;".repeat(9) + "p1 0 0;".repeat(6), 15);
        due("count(0)", x.count(0), 9);
        due("count(1)", x.count(1), 6);
        due("people first", told("p1 0 0;".repeat(6) + "k0 0 1;".repeat(9), 15).count(0), 9);
    }

    private static void promise04_leastNumbers() {
        KneesLent x = told("k0 0 1;p1 0 0;x0 1;o0 0;", 4);
        due("SIDE", x.knee(0, 0), 0);
        due("FARM", x.knee(0, 1), 0);
        due("STEPS", x.knee(0, 2), 1);
        due("NEEDS", x.person(0, 0), 1);
        due("UP", x.person(0, 1), 0);
        due("DOWN", x.person(0, 2), 0);
        due("FEUD", x.farm(0, 1), 2);
        due("OIL", x.farm(0, 0), 0);
    }

    private static void promise04_greatestNumbers() {
        KneesLent x = told("k1 4 60;p3 20 20;x4 3;o4 9;", 4);
        due("SIDE", x.knee(0, 0), 1);
        due("FARM", x.knee(0, 1), 4);
        due("STEPS", x.knee(0, 2), 60);
        due("NEEDS", x.person(0, 0), 3);
        due("UP", x.person(0, 1), 20);
        due("DOWN", x.person(0, 2), 20);
        due("FEUD of 4", x.farm(4, 1), 8);
        due("FEUD of 3", x.farm(3, 1), 16);
        due("OIL", x.farm(4, 0), 9);
    }

    private static void promise04_aFeudToldAgainIsAsItIs() {
        KneesLent x = told("x0 4;x0 4;x4 0;", 3);
        due("farm(0, 1)", x.farm(0, 1), 16);
        due("farm(4, 1)", x.farm(4, 1), 1);
    }

    private static void promise04_ofOilToldAgainTheLater() {
        KneesLent x = told("o2 9;o2 0;o3 0;o3 9;o3 8;", 5);
        due("farm(2, 0)", x.farm(2, 0), 0);
        due("farm(3, 0)", x.farm(3, 0), 8);
        due("farm(1, 0), not told", x.farm(1, 0), 1);
    }

    private static void promise04_blanksBetweenTokens() {
        due("none where none is needed", told("k0 0 1;p1 0 0;", 2).count(1), 1);
        due("many", told("  k  0   0  1  ;  p 1 0 0 ; ", 2).count(1), 1);
        due("a number's letters", told("k0 0 12;", 1).knee(0, 2), 12);
    }

    private static void promise04_anewNothingOfTheOldParish() {
        KneesLent x = told("k1 3 5;", 1);
        due("count(1)", x.count(1), 0);
        due("knee(1, 0)", x.knee(1, 0), BAD);
        for (int f = 0; f < 5; f++) {
            due("oil", x.farm(f, 0), 1);
            due("feuds", x.farm(f, 1), 0);
            due("knees", x.farm(f, 2), f == 3 ? 1 : 0);
            due("table", x.farm(f, 3), f == 3 ? 0 : NONE);
        }
    }

    private static void promise04_anewDayZeroNothingDone() {
        KneesLent x = told(Edges.SMALL, 11);
        for (int what : new int[] {0, 2, 3, 4, 7}) {
            due("now(" + what + ")", x.now(what), 0);
        }
        due("at home", x.now(1), 31);
        for (int k = 0; k < 5; k++) {
            due("steps left", x.knee(k, 2), new int[] {30, 20, 12, 40, 9}[k]);
            due("holder", x.knee(k, 3), NONE);
            due("pledge", x.knee(k, 4), 0);
        }
        due("undo()", x.undo(), STATE);
    }

    private static void promise04_anewNothingToldFelt() {
        KneesLent x = told(Edges.SMALL, 11);
        due("count(2)", x.count(2), 0);
        due("count(3)", x.count(3), 0);
        due("downhill(0)", x.downhill(0), 0);
        due("downhill(1)", x.downhill(1), 0);
        due("rain(0)", x.rain(0), 8);
        due("forget()", x.forget(), 0);
    }

    private static void promise04_anewImagesAreGone() {
        KneesLent x = told(Edges.SMALL, 11);
        due("back(0)", x.back(0), STATE);
        due("back(1)", x.back(1), STATE);
        due("by the empty text, too", told("", 0).back(0), STATE);
    }

    // ---- promise 4: faults

    private static void fault(String text, int place) {
        Edges.changesNothing("parish() of '" + text + "'", () -> Edges.busyWith(text), -10 - place, x -> x.parish());
    }

    private static void promise04_faultAtTheFirstPlaceAndBehindTheLast() {
        fault("?", 0);
        fault(";", 0);
        fault("0", 0);
        fault(" ".repeat(179) + ";", 179);
        fault(" ".repeat(179) + "k", 180);
        fault("k0 0 1;" + " ".repeat(172) + "p", 180);
    }

    private static void promise04_theTenthK() {
        fault("k0 0 1;".repeat(9) + "k0 0 1;", 63);
        fault("k0 0 1;".repeat(9) + "k", 63);
        fault("k0 0 1;".repeat(9) + "p1 0 0; k0 0 1;", 71);
    }

    private static void promise04_theSeventhP() {
        fault("p1 0 0;".repeat(6) + "p1 0 0;", 42);
        fault("p1 0 0;".repeat(6) + "p", 42);
        fault("p1 0 0;".repeat(6) + "k0 0 1; p1 0 0;", 50);
    }

    private static void promise04_bThatIsA() {
        for (int f = 0; f < 5; f++) {
            fault("x" + f + " " + f + ";", 3);
        }
        fault("x0 1;x1  1 1", 9);
        fault("x2 2", 3);
    }

    private static void promise04_sideBeyond() {
        fault("k2 0 1;", 1);
        fault("k 99 0 1;", 2);
    }

    private static void promise04_farmBeyond() {
        fault("k0 5 1;", 3);
        fault("x5 0;", 1);
        fault("x0 5;", 3);
        fault("x5 5;", 1);
        fault("o5 0;", 1);
    }

    private static void promise04_stepsBeyond() {
        fault("k0 0 0;", 5);
        fault("k0 0 61;", 5);
    }

    private static void promise04_needsBeyond() {
        fault("p0 0 0;", 1);
        fault("p4 0 0;", 1);
    }

    private static void promise04_upAndDownBeyond() {
        fault("p1 21 0;", 3);
        fault("p1 0 21;", 5);
    }

    private static void promise04_oilBeyond() {
        fault("o0 10;", 3);
    }

    private static void promise04_numberAbove99() {
        fault("k0 0 99;", 5);
        fault("k0 0 100;", 5);
        fault("k0 0 101;", 5);
        fault("o0 256;", 3);
        fault("o0 4294967296;", 3);
        fault("o0 4294967297;", 3);
        fault("o0 18446744073709551616;", 3);
        fault("o0 " + "1" + "0".repeat(64) + ";", 3);
        fault("100", 0);
        fault("k0 0 1;123;", 7);
    }

    private static void promise04_numberWithAZeroAhead() {
        fault("k00 0 1;", 1);
        fault("k0 01 1;", 3);
        fault("k0 0 01;", 5);
        fault("k0 0 060;", 5);
        fault("o0 00;", 3);
        fault("o0 000000000000;", 3);
        fault("p1 020 0;", 3);
        fault("k0 0 1;01", 7);
    }

    private static void promise04_lettersThatAreNoToken() {
        fault("j0 0 1;", 0);
        fault("l0 0 1;", 0);
        fault("n0 1;", 0);
        fault("q1 0 0;", 0);
        fault("w0 1;", 0);
        fault("y0 1;", 0);
        fault("K0 0 1;", 0);
        fault("P1 0 0;", 0);
        fault("X0 1;", 0);
        fault("O0 1;", 0);
        fault("k0 0 1/;", 6);
        fault("k0 0 /1;", 5);
        fault("k0 0 1:;", 6);
        fault("k0 0 1:", 6);
        fault("k0 0 1<", 6);
        fault("k0 / 1;", 3);
        fault("k0 : 1;", 3);
        fault("k0 0 -1;", 5);
        fault("k0 0 +1;", 5);
        fault("k0 0 1.;", 6);
    }

    private static void promise04_onlyLetter32IsABlank() {
        fault("k0\0370 1;", 2);
        fault("k0!0 1;", 2);
        fault("k0\t0 1;", 2);
        fault("k0 0 1;\n", 7);
        fault("\0", 0);
        fault("k0 0 1;\0", 7);
        fault("\u00a0k0 0 1;", 0);
        fault("k0 0 1;\u00ff", 7);
    }

    private static void promise04_letters0And255() {
        KneesLent x = new KneesLent();
        x.type(0);
        due("parish() of letter 0", x.parish(), -10);
        x.clear();
        x.type(32);
        x.type(255);
        due("parish() of letter 255", x.parish(), -11);
    }

    private static void promise04_endsTooEarly() {
        fault("k", 1);
        fault("k0", 2);
        fault("k0 0", 4);
        fault("k0 0 1", 6);
        fault("k0 0 1 ", 7);
        fault("k0 0   ", 7);
        fault("p", 1);
        fault("p1 0 0", 6);
        fault("x", 1);
        fault("x0", 2);
        fault("x0 1", 4);
        fault("o0", 2);
        fault("o0 1", 4);
        fault("k0 0 1;o0 1   ", 14);
    }

    private static void promise04_oneNumberTooFewOrTooMany() {
        fault("k0 0;", 4);
        fault("k;", 1);
        fault("k0 0 1 1;", 7);
        fault("p1 0;", 4);
        fault("p1 0 0 0;", 7);
        fault("x0;", 2);
        fault("x0 1 2;", 5);
        fault("o0;", 2);
        fault("o0 1 1;", 5);
        fault("k0 0 1;;", 7);
    }

    private static void promise04_aLetterWhereANumberIsDue() {
        fault("kk", 1);
        fault("k0 p", 3);
        fault("k0 0 1 k0 0 1;", 7);
        fault("k0 0 1p1 0 0;", 6);
        fault("x0 o", 3);
    }

    private static void promise04_ofTwoFaultsTheFirst() {
        fault("k0 5 1;?", 3);
        fault("k0 ? 61;", 3);
        fault("k0 0 61", 5);
        fault("k2 5 0", 1);
        fault("x0 0", 3);
        fault("k0 0 1;".repeat(9) + "k9 9 00?", 63);
        fault("o0 10;k0 0 01;", 3);
    }

    private static void promise04_aFaultBehindItemsThatCouldBeRead() {
        fault("k1 4 60;p3 20 20;x0 4;o4 9;o4 10;", 30);
        fault("p1 0 0;;", 7);
    }

    private static void promise04_theTextCanBeReadOnceItsFaultIsGone() {
        KneesLent x = Edges.busyWith("k0 3 7");
        due("parish()", x.parish(), -16);
        due("type(';')", x.type(';'), 7);
        due("parish()", x.parish(), 1);
        due("knee(0, 2)", x.knee(0, 2), 7);
    }

    // ---- promise 5

    private static void promise05_kneesThereAre() {
        Edges.range("knee(.., 0)", Edges::busy, 0, 4, (x, k) -> x.knee(k, 0));
        Edges.range("knee(.., 4) of nine", Edges::whole, 0, 8, (x, k) -> x.knee(k, 4));
    }

    private static void promise05_whats() {
        Edges.range("knee(0, ..)", Edges::busy, 0, 4, (x, what) -> x.knee(0, what));
    }

    private static void promise05_leastAndGreatest() {
        KneesLent x = Edges.whole();
        due("left", x.knee(0, 0), 0);
        due("right", x.knee(8, 0), 1);
        due("farm 0", x.knee(0, 1), 0);
        due("farm 4", x.knee(8, 1), 4);
        due("1 step", x.knee(0, 2), 1);
        due("60 steps", x.knee(8, 2), 60);
    }

    private static void promise05_whoHasIt() {
        KneesLent x = Edges.whole();
        due("at home", x.knee(8, 3), NONE);
        x.lends(8, 5);
        due("the last person", x.knee(8, 3), 5);
        x.lends(0, 0);
        due("the first person", x.knee(0, 3), 0);
        x.brings(8);
        due("at home again", x.knee(8, 3), NONE);
    }

    private static void promise05_whetherInPledge() {
        KneesLent x = Edges.whole();
        x.pledges(8, 1);
        due("in pledge", x.knee(8, 4), 1);
        due("the one beside it", x.knee(7, 4), 0);
        x.pledges(8, 0);
        due("not any more", x.knee(8, 4), 0);
    }

    private static void promise05_nothingLeft() {
        KneesLent x = Due.read("k0 0 1;p1 0 0;");
        x.lends(0, 0);
        x.walks(0, 1, 0);
        due("none left", x.knee(0, 2), 0);
        x.walks(0, 1, 0);
        due("not fewer than none", x.knee(0, 2), 0);
    }

    // ---- promise 6

    private static void promise06_peopleThereAre() {
        Edges.range("person(.., 0)", Edges::busy, 0, 2, (x, p) -> x.person(p, 0));
        Edges.range("person(.., 5) of six", Edges::whole, 0, 5, (x, p) -> x.person(p, 5));
    }

    private static void promise06_whats() {
        Edges.range("person(0, ..)", Edges::busy, 0, 5, (x, what) -> x.person(0, what));
    }

    private static void promise06_leastAndGreatest() {
        KneesLent x = Due.read("p1 0 20;p3 20 0;");
        due("a left", x.person(0, 0), 1);
        due("a pair", x.person(1, 0), 3);
        due("up 0", x.person(0, 1), 0);
        due("up 20", x.person(1, 1), 20);
        due("down 20", x.person(0, 2), 20);
        due("down 0", x.person(1, 2), 0);
    }

    private static void promise06_firstAndLastKneeThatHeHas() {
        KneesLent x = Edges.whole();
        due("no left", x.person(0, 3), NONE);
        due("no right", x.person(0, 4), NONE);
        x.lends(0, 0);
        x.lends(8, 0);
        due("left", x.person(0, 3), 0);
        due("right", x.person(0, 4), 8);
        due("another's left", x.person(1, 3), NONE);
        due("another's right", x.person(5, 4), NONE);
    }

    private static void promise06_readyByALeft() {
        KneesLent x = Edges.whole();
        due("not yet", x.person(4, 5), 0);
        x.lends(6, 4);
        due("READY", x.person(4, 5), 1);
    }

    private static void promise06_readyByARight() {
        KneesLent x = Edges.whole();
        due("not yet", x.person(5, 5), 0);
        x.lends(7, 5);
        due("READY", x.person(5, 5), 1);
        x.brings(7);
        due("not any more", x.person(5, 5), 0);
    }

    private static void promise06_readyByAPairNotByHalf() {
        KneesLent x = Edges.whole();
        x.lends(2, 0);
        due("a left", x.person(0, 5), 0);
        x.brings(2);
        x.lends(3, 0);
        due("a right", x.person(0, 5), 0);
        x.lends(2, 0);
        due("both", x.person(0, 5), 1);
    }

    private static void promise06_readyWithNothingLeft() {
        KneesLent x = Due.read("k0 0 1;p1 0 0;");
        x.lends(0, 0);
        x.walks(0, 20, 20);
        due("READY", x.person(0, 5), 1);
    }

    // ---- promise 7

    private static void promise07_farmsFrom0To4() {
        Edges.range("farm(.., 0)", Edges::busy, 0, 4, (x, f) -> x.farm(f, 0));
    }

    private static void promise07_whats() {
        Edges.range("farm(0, ..)", Edges::busy, 0, 3, (x, what) -> x.farm(0, what));
    }

    private static void promise07_oilNoneMostAndNotTold() {
        KneesLent x = Due.read("o0 0;o4 9;");
        due("none", x.farm(0, 0), 0);
        due("most", x.farm(4, 0), 9);
        due("not told", x.farm(2, 0), 1);
    }

    private static void promise07_feudsWithNoneAndWithAll() {
        KneesLent x = Due.read("x0 1;x0 2;x0 3;x0 4;x4 1;x4 2;x4 3;");
        due("farm 0", x.farm(0, 1), 30);
        due("farm 4", x.farm(4, 1), 15);
        due("farm 2", x.farm(2, 1), 17);
        due("none", Due.read("k0 0 1;").farm(0, 1), 0);
    }

    private static void promise07_kneesNoneAndAll() {
        KneesLent x = Due.read("k0 4 1;".repeat(9));
        due("all nine", x.farm(4, 2), 511);
        due("none", x.farm(3, 2), 0);
        due("the last", Edges.whole().farm(4, 2), 256);
        due("the first two", Edges.whole().farm(0, 2), 3);
    }

    private static void promise07_kneesThatAreLentAreStillItsOwn() {
        KneesLent x = Edges.whole();
        x.lends(0, 0);
        x.pledges(1, 1);
        due("farm(0, 2)", x.farm(0, 2), 3);
    }

    private static void promise07_noTableForAFarmThatOwnsNone() {
        KneesLent x = Due.read("k0 0 1;k0 2 1;x0 1;x1 2;");
        due("farm(1, 3)", x.farm(1, 3), NONE);
        due("farm(0, 3)", x.farm(0, 3), 0);
        due("farm(2, 3)", x.farm(2, 3), 0);
    }

    private static void tables(String text, int... want) {
        KneesLent x = Due.read(text);
        for (int f = 0; f < 5; f++) {
            due("farm(" + f + ", 3) of " + text, x.farm(f, 3), want[f]);
        }
        due("now(6) of " + text, x.now(6), want[5]);
    }

    private static void promise07_theLowestTableThatCanBe() {
        tables(FIVE_FARMS, 0, 0, 0, 0, 0, 1);
        tables(FIVE_FARMS + "x0 4;", 0, 0, 0, 0, 1, 2);
        tables(FIVE_FARMS + "x3 4;", 0, 0, 0, 0, 1, 2);
        tables(FIVE_FARMS + "x0 1;x1 2;x2 0;", 0, 1, 2, 0, 0, 3);
        tables(FIVE_FARMS + "x0 1;x0 2;x0 3;x0 4;x1 2;x1 3;x1 4;x2 3;x2 4;x3 4;", 0, 1, 2, 3, 4, 5);
    }

    private static void promise07_notTheLowestIfThatWouldTakeOneTableMore() {
        tables("k0 0 1;k0 1 1;k0 2 1;k0 3 1;x0 2;x2 3;x3 1;", 0, 1, 1, 0, NONE, 2);
        tables("k0 0 1;k0 1 1;k0 3 1;k0 4 1;x0 3;x3 4;x4 1;", 0, 1, NONE, 1, 0, 2);
    }

    private static void promise07_noTableOfAnOlderParish() {
        KneesLent x = Due.read(FIVE_FARMS + "x0 1;x1 2;x2 0;");
        for (int i = 0; i < 3; i++) {
            Due.typeAll(x, "k0 3 1;k0 1 1;");
            due("parish()", x.parish(), 2);
            due("tables", x.now(6), 1);
            for (int f = 0; f < 5; f++) {
                due("farm(" + f + ", 3)", x.farm(f, 3), f == 1 || f == 3 ? 0 : NONE);
            }
        }
    }

    // ---- promise 8

    private static void promise08_whats() {
        KneesLent x = Edges.small();
        due("now(0)", x.now(0), 0);
        due("now(7)", x.now(7), 0);
        Edges.outside("now", Edges::busy, BAD, 0, 7, (y, what) -> y.now(what));
    }

    private static void promise08_kneesAtHomeAllAndNone() {
        KneesLent x = Due.read("k0 0 1;".repeat(6) + "p1 0 0;".repeat(6));
        due("all six", x.now(1), 63);
        for (int i = 0; i < 6; i++) {
            x.lends(i, i);
        }
        due("none", x.now(1), 0);
        due("all nine", Edges.whole().now(1), 511);
    }

    private static void promise08_pledgedKneesAreAtHome() {
        KneesLent x = Edges.whole();
        for (int k = 0; k < 9; k++) {
            x.pledges(k, 1);
        }
        due("now(1)", x.now(1), 511);
    }

    private static void promise08_restOfNoKnee() {
        KneesLent x = Due.read("p1 0 0;");
        due("there are none", x.now(5), NONE);
        KneesLent pledged = Due.read("k0 0 1;");
        pledged.pledges(0, 1);
        due("in pledge", pledged.now(5), NONE);
        KneesLent lent = Due.read("k0 0 1;p1 0 0;");
        lent.lends(0, 0);
        due("lent", lent.now(5), NONE);
        lent.brings(0);
        due("home", lent.now(5), 0);
    }

    private static void promise08_restOneStepFewerAndAsMany() {
        due("as many: the lowest", Due.read("k0 0 9;k0 0 8;k0 0 8;").now(5), 1);
        due("one fewer", Due.read("k0 0 9;k0 0 8;k0 0 7;").now(5), 2);
        due("the first", Due.read("k0 0 7;k0 0 7;k0 0 8;").now(5), 0);
        due("the ninth", Due.read("k0 0 60;".repeat(8) + "k1 4 59;").now(5), 8);
    }

    private static void promise08_restWithNothingLeft() {
        KneesLent x = Due.read("k0 0 1;k0 0 2;p1 0 0;");
        x.lends(1, 0);
        x.walks(0, 2, 0);
        x.brings(1);
        due("now(5)", x.now(5), 1);
    }

    private static void promise08_tablesNoneOneFive() {
        due("no knees", Due.read("x0 1;").now(6), 0);
        due("one farm", Due.read("k0 4 1;x0 4;").now(6), 1);
        due("five farms that speak", Due.read(FIVE_FARMS).now(6), 1);
        due("four of whom none speaks", Due.read("k0 0 1;k0 1 1;k0 2 1;k0 3 1;x0 1;x0 2;x0 3;x1 2;x1 3;x2 3;").now(6), 4);
        due("five in a ring", Due.read(FIVE_FARMS + "x0 1;x1 2;x2 3;x3 4;x4 0;").now(6), 3);
    }

    private static void promise08_howManyMayBeUndone() {
        KneesLent x = Edges.small();
        for (int deeds = 1; deeds <= 12; deeds++) {
            x.bell();
            due("now(7)", x.now(7), Math.min(10, deeds));
        }
        x.undo();
        due("now(7)", x.now(7), 9);
    }

    public static void main(String[] args) throws Exception {
        Edges.run(ParishEdgesTest.class, 1, 8);
    }
}
