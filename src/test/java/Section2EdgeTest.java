/** Section 2 of the terms: each sentence that names an edge, with its own test. */
public final class Section2EdgeTest {
    private static final int NONE = FrozenIn.NONE;
    private static final int NO = FrozenIn.NO;

    private Section2EdgeTest() {
    }

    public static void main(String[] args) {
        Edges edges = new Edges();
        tell(edges);
        edges.run();
    }

    static void tell(Edges edges) {
        edges.in(Document.SECTION_2);
        tellBeyond(edges);
        tellDrift(edges);
        tellDogs(edges);
        tellFoundAndNotes(edges);
        tellLeave(edges);
        tellChances(edges);
        tellState(edges);
    }

    private static void tellBeyond(Edges edges) {
        edges.sentence("(Nothing is changed by these;", Section2EdgeTest::nothingIsChanged);
        edges.sentence("MONTHS go beyond 999 in them.)", Section2EdgeTest::thenBeyond999);
        edges.sentence("MONTHS go beyond 999 in them.)", Section2EdgeTest::outNeedAndEnterBeyond999);
        edges.sentence("MONTHS go beyond 999 in them.)", Section2EdgeTest::nearestBeyond999);
        edges.sentence("MONTHS go beyond 999 in them.)", Section2EdgeTest::dogsBeyond999);
        edges.sentence("MONTHS go beyond 999 in them.)", Section2EdgeTest::waitsBeyond999);
        edges.sentence("MONTHS go beyond 999 in them.)", Section2EdgeTest::leaveBeyond999);
        edges.sentence("MONTHS go beyond 999 in them.)", Section2EdgeTest::calmsBeyond999);
        edges.sentence("MONTHS go beyond 999 in them.)", Section2EdgeTest::yearsBeyond999);
    }

    private static void tellDrift(Edges edges) {
        edges.sentence("THEN: the CELL of a FLOE behind m (0 .. 60) MONTHS.", Section2EdgeTest::thenOf0To60);
        edges.sentence("OUT in how many MONTHS (0 .. 60) it is first;", Section2EdgeTest::outIn0To60);
        edges.sentence("it is first;", Section2EdgeTest::outForTheFirstTime);
        edges.sentence("it is first; none.", Section2EdgeTest::outNever);
        edges.sentence("NEED: by how much FOOD must be more at least so that ahead of each MONTH, up to the one behind which it is"
                + " OUT first, it is 1 or more;", Section2EdgeTest::needFrom0On);
        edges.sentence("up to the one behind which it is OUT first", Section2EdgeTest::needUpToTheFirstOut);
        edges.sentence("none: it is never OUT (in 60).", Section2EdgeTest::needOfOneNeverOut);
        edges.sentence("ENTER: rows (bits 0 .. 5) in which a FLOE of a KIND, put in column 0 now,", Section2EdgeTest::enterFromAllRows);
        edges.sentence("is OUT behind n (0 .. 60) MONTHS", Section2EdgeTest::enterOf0To60);
        edges.sentence("MONTHS or sooner.", Section2EdgeTest::enterSooner);
        edges.sentence("NEAREST of two unlike FLOES:", Section2EdgeTest::nearestOfUnlikeOnes);
        edges.sentence("in how many MONTHS (0 .. 60) they are least FAR from each other;", Section2EdgeTest::nearestIn0To60);
        edges.sentence("of like ones the first; how FAR.", Section2EdgeTest::nearestForTheFirstTime);
    }

    private static void tellDogs(Edges edges) {
        edges.sentence("each MONTH one goes to a CELL 2 or less FAR", Section2EdgeTest::dogsGo2CellsAMonth);
        edges.sentence("(or stays), then the FLOE drifts;", Section2EdgeTest::dogsStayWhileTheFloeDrifts);
        edges.sentence("one must be at THE POLE behind some MONTH (not as it sets out)", Section2EdgeTest::dogsThatSetOutFromThePole);
        edges.sentence("in the FLOE's CELL behind the last one (which may be the same):", Section2EdgeTest::dogsBackInTheSameMonth);
        edges.sentence("the fewest MONTHS (1 .. 30);", Section2EdgeTest::dogsFewestMonths);
        edges.sentence("the fewest behind which one can be at THE POLE; none.", Section2EdgeTest::dogsFromEachCell);
    }

    private static void tellFoundAndNotes(Edges edges) {
        edges.sentence("FOUND 0 .. 3, as they come:", Section2EdgeTest::foundFourAtMost);
        edges.sentence("put into one and the same CELL as all of them, as MONTH 0 begins,", Section2EdgeTest::foundFromMonth0On);
        edges.sentence("was in CELL x behind m (1 .. 60) MONTHS.", Section2EdgeTest::foundBehind1To60);
        edges.sentence("FROM: how many CELLS that may have been; the least; none.", Section2EdgeTest::fromAllOneAndNone);
        edges.sentence("NOTES 0 .. 5, as they come:", Section2EdgeTest::notesSixAtMost);
        edges.sentence("a FLOE in MONTH m (0 .. 99),", Section2EdgeTest::notesOfMonths0To99);
        edges.sentence("from column c (0 .. 5),", Section2EdgeTest::notesOfColumns0To5);
        edges.sentence("drifted WAY y, n (0 .. 3) CELLS", Section2EdgeTest::notesOf0To3Cells);
        edges.sentence("(y any, if n is 0).", Section2EdgeTest::notesOfNoCells);
        edges.sentence("IS: KINDS (bits) by which all NOTES of it are so.", Section2EdgeTest::isAllSomeAndNone);
        edges.sentence("WAIT: in how many MONTHS (0 .. 23) from now", Section2EdgeTest::waitsUpTo11);
        edges.sentence("the most of these KINDS that drift alike (WAY and CELLS, from its column as it is now;", Section2EdgeTest::waitsByWayAndCells);
        edges.sentence("alike if none does) are fewest;", Section2EdgeTest::waitsAlikeInACalm);
        edges.sentence("of like ones the first; none: no KIND.", Section2EdgeTest::waitsFirstAndNone);
    }

    private static void tellLeave(Edges edges) {
        edges.sentence("LEAVE: from each of two unlike FLOES a, b", Section2EdgeTest::leaveUnlikeOnes);
        edges.sentence("behind i, j (0 .. 5) MONTHS from now:", Section2EdgeTest::leaveBehind0To5);
        edges.sentence("to each FOOD there is on that one then,", Section2EdgeTest::leaveForFoodThatIsNotBelow0);
        edges.sentence("less how FAR they are from each other then,", Section2EdgeTest::leaveLessFar);
        edges.sentence("less 5, if i is j:", Section2EdgeTest::leaveTogetherIs5Less);
        edges.sentence("(neither would get more by another MONTH):", Section2EdgeTest::leaveWhereNeitherGetsMore);
        edges.sentence("how many; the k-th (rising).", Section2EdgeTest::leaveTheKth);
    }

    private static void tellChances(Edges edges) {
        edges.sentence("CALMS: by c of 10 (0 .. 10) a MONTH, apart, has no wind (STRENGTH 0):", Section2EdgeTest::calmsBy0To10);
        edges.sentence("the chance that a FLOE is OUT behind m (0 .. 8) MONTHS: THE FRACTION.", Section2EdgeTest::calmsBehind0To8);
        edges.sentence("YEARS by a SEED (0 .. 999999)", Section2EdgeTest::yearsBySeed0To999999);
        edges.sentence("n (0 .. 60) MONTHS:", Section2EdgeTest::yearsOf0To60);
        edges.sentence("X is SEED at first; each MONTH X becomes X times 1103515245 and 12345, by 2147483648 what is left over;",
                Section2EdgeTest::yearsLeftOver);
        edges.sentence("X by 65536 (cut), by 4 left over, is the wind's WAY in it, X by 1048576 (cut), by 4 left over, its STRENGTH:",
                Section2EdgeTest::yearsWaysAndStrengths);
        edges.sentence("X by 65536 (cut), by 4 left over,", Section2EdgeTest::yearsWayIsCut);
        edges.sentence("X by 1048576 (cut), by 4 left over,", Section2EdgeTest::yearsStrengthIsCut);
        edges.sentence("how many FLOES are OUT then.", Section2EdgeTest::yearsCountAllFloes);
    }

    private static void tellState(Edges edges) {
        edges.sentence("UNDO: CELLS, FOOD, the MONTH as ahead of the last MONTHS gone by, FOOD given, FLOE moved",
                Section2EdgeTest::undoneOneByOne);
        edges.sentence("(8 at most;", Section2EdgeTest::undoneEightAtMost);
        edges.sentence("behind a FLOE that comes, a WIND told none may be)", Section2EdgeTest::undoneNoneBehindFloeOrWind);
        edges.sentence("IMAGES 0, 1 keep all but them, THE TEXT, THE FRACTION and STATUS;", Section2EdgeTest::imagesKeepAllBut);
        edges.sentence("what may be undone they keep;", Section2EdgeTest::imagesKeepWhatMayBeUndone);
        edges.sentence("it goes on from one.", Section2EdgeTest::goesOnFromAnImage);
        edges.sentence("STATUS: how many calls were refused as BAD, NO, FULL (each answer told so below is such a one).",
                Section2EdgeTest::statusCountsEachRefusal);
    }

    // ---- beyond 999, and nothing changed

    private static void nothingIsChanged() {
        FrozenIn x = Due.alone(4, 3, 0, 1);
        x.floe(1, 30, 7);
        x.found(0, 1, 1);
        x.note(0, 0, 0, 0, 0, 0, 0);
        x.month(1);
        x.feed(0, 5);
        long ahead = x.digest();
        for (int what = 0; what < 2; what++) {
            x.then(what, 60);
            x.out(what);
            x.need(what);
            x.enter(what, 60);
            x.nearest(0, 1, what);
            x.dogs(0, what);
            x.whence(what);
            x.is(what);
            x.waits(what);
            x.leave(0, 1, what - 1);
            x.years(what, 60);
            x.part(what);
            x.status(what);
            Due.same("digest() behind all that look", x.digest(), ahead);
        }
        x.calms(0, 8, 3);
        Due.same("count(5)", x.count(5), 2);
        Due.same("undo() of the food", x.undo(), 1);
        Due.same("undo() of the month", x.undo(), 0);
        Due.same("of(0, 1)", x.of(0, 1), 3);
        Due.same("of(0, 2)", x.of(0, 2), 0);
    }

    private static void thenBeyond999() {
        // RING goes right in 999 and 1001, as the wind in 1000 and 1002.
        FrozenIn x = Due.aloneInMonth(999, 2, 0, 0, 1);
        int[] due = {0, 6, 7, 13, 14};
        for (int m = 0; m < due.length; m++) {
            Due.same("then(0, " + m + ") from 999", x.then(0, m), due[m]);
        }
        Due.same("count(1)", x.count(1), 999);
    }

    private static void outNeedAndEnterBeyond999() {
        FrozenIn x = Due.aloneInMonth(999, 0, 0, 0, 1);
        Due.same("out(0) from 999", x.out(0), 5);
        Due.same("need(0) from 999", x.need(0), 5);
        Due.same("enter(0, 4) from 999", x.enter(0, 4), 0);
        Due.same("enter(0, 5) from 999", x.enter(0, 5), 63);
        FrozenIn y = Due.aloneInMonth(999, 0, 0, 0, 0);
        // 999 leaves 3 by 12, so 1058 leaves 2: the sixtieth month from then.
        y.wind(2, 0, 1);
        Due.same("out(0), 60 from 999", y.out(0), 60);
    }

    private static void nearestBeyond999() {
        FrozenIn x = Due.aloneInMonth(999, 3, 0, 2, 1);
        x.floe(0, 3, 0);
        Due.same("nearest(0, 1, 0) from 999", x.nearest(0, 1, 0), 3);
        Due.same("nearest(0, 1, 1) from 999", x.nearest(0, 1, 1), 0);
    }

    private static void dogsBeyond999() {
        FrozenIn x = Due.aloneInMonth(999, 1, 14, 0, 3);
        Due.same("dogs(0, 0) from 999", x.dogs(0, 0), 3);
        Due.same("dogs(0, 1) from 999", x.dogs(0, 1), 1);
    }

    private static void waitsBeyond999() {
        // Column 2, STRENGTH 1: 1000 all six alike; in 1001 four as the wind, RING and BACK right.
        FrozenIn x = Due.aloneInMonth(999, 0, 2, 0, 1);
        Due.same("waits(0) from 999", x.waits(0), 0);
        x.wind(3, 0, 0);
        Due.same("waits(0) from 999, which is calm", x.waits(0), 2);
    }

    private static void leaveBeyond999() {
        FrozenIn x = Due.aloneInMonth(999, 3, 0, 2, 1);
        x.feed(0, 60);
        x.floe(0, 3, 60);
        // FAR 3, 2, 1, 0, 0, 0, so FOOD less FAR is 57 four times, then 56, 55.
        leaves(x, 0, 1, 1, 2, 3, 6, 8, 9, 12, 13, 15, 18, 19, 20);
    }

    private static void calmsBeyond999() {
        FrozenIn x = Due.aloneInMonth(999, 2, 3, 0, 1);
        // RING goes to the next column in 1000 and 1002 alone.
        chance(x, 3, 0, 0, 1);
        chance(x, 4, 0, 1, 1);
        chance(x, 4, 5, 1, 4);
    }

    private static void yearsBeyond999() {
        FrozenIn x = Due.aloneInMonth(999, 2, 4, 0, 0);
        // The second wind of SEED 0 is 0 1: RING follows it in an even MONTH.
        Due.same("years(0, 2) from 999", x.years(0, 2), 1);
        FrozenIn y = Due.aloneInMonth(998, 2, 4, 0, 0);
        Due.same("years(0, 2) from 998", y.years(0, 2), 0);
    }

    // ---- where floes drift

    /** One column a year, in its last MONTH. */
    private static FrozenIn columnAYear(int food) {
        FrozenIn x = new FrozenIn();
        Due.windAlways(x, 0, 0);
        x.wind(11, 0, 1);
        x.floe(0, 0, food);
        return x;
    }

    private static void thenOf0To60() {
        FrozenIn x = columnAYear(0);
        int[] months = {0, 11, 12, 23, 24, 59, 60};
        int[] due = {0, 0, 1, 1, 2, 4, 5};
        for (int i = 0; i < months.length; i++) {
            Due.same("then(0, " + months[i] + ")", x.then(0, months[i]), due[i]);
        }
        Due.bad(x, "then(0, -1)", () -> x.then(0, -1));
        Due.bad(x, "then(0, 61)", () -> x.then(0, 61));
    }

    private static void outIn0To60() {
        Due.same("out(0) in column 5", Due.alone(0, 17, 0, 1).out(0), 0);
        Due.same("out(0) in column 5, from where it drifts", Due.alone(0, 17, 2, 1).out(0), 0);
        Due.same("out(0) in column 4", Due.alone(0, 16, 0, 1).out(0), 1);
        FrozenIn x = columnAYear(0);
        Due.same("out(0) behind five years", x.out(0), 60);
        x.month(1);
        Due.same("out(0), a MONTH later", x.out(0), 59);
    }

    private static void outForTheFirstTime() {
        FrozenIn x = Due.alone(0, 3, 0, 1);
        x.wind(2, 2, 1);
        Due.same("then(0, 3): not out again", x.then(0, 3), 4);
        Due.same("then(0, 4): out again", x.then(0, 4), 5);
        Due.same("out(0)", x.out(0), 2);
    }

    private static void outNever() {
        Due.same("out(0) in a calm", Due.alone(0, 4, 0, 0).out(0), NONE);
        Due.same("out(0), back", Due.alone(0, 4, 2, 3).out(0), NONE);
        Due.same("out(0), to the next rows", Due.alone(0, 4, 1, 3).out(0), NONE);
        Due.same("out(0) of SHOAL", Due.alone(3, 1, 0, 1).out(0), NONE);
        Due.same("out(0) of SPLIT", Due.alone(5, 4, 0, 2).out(0), NONE);
    }

    private static void needFrom0On() {
        FrozenIn x = new FrozenIn();
        // Out behind 3 MONTHS: ahead of the third there must be 1, so 3 ahead of the first.
        for (int food = 0; food <= 4; food++) {
            x.floe(0, 14, food);
        }
        int[] due = {3, 2, 1, 0, 0};
        for (int f = 0; f < 5; f++) {
            Due.same("need(" + f + ") with FOOD " + f, x.need(f), due[f]);
        }
        x.moves(0, 17);
        Due.same("need(0), out already", x.need(0), 0);
        Due.same("need(0) of five years without FOOD", columnAYear(0).need(0), 60);
        Due.same("need(0) of five years with 59", columnAYear(59).need(0), 1);
        Due.same("need(0) of five years with 60", columnAYear(60).need(0), 0);
        FrozenIn y = columnAYear(60);
        y.feed(0, 60);
        Due.same("need(0) of five years with 99", y.need(0), 0);
    }

    private static void needUpToTheFirstOut() {
        FrozenIn x = Due.alone(0, 4, 2, 1);
        x.wind(0, 0, 1);
        x.wind(11, 0, 1);
        Due.same("need(0): out behind a MONTH, whatever comes then", x.need(0), 1);
        x.feed(0, 1);
        Due.same("need(0) with 1", x.need(0), 0);
    }

    private static void needOfOneNeverOut() {
        FrozenIn x = Due.alone(0, 4, 0, 0);
        Due.same("need(0) without FOOD", x.need(0), NONE);
        x.feed(0, 60);
        x.feed(0, 60);
        Due.same("need(0) with 99", x.need(0), NONE);
        Due.same("status(0): NONE is no refusal", x.status(0), 0);
    }

    private static void enterFromAllRows() {
        FrozenIn x = new FrozenIn();
        Due.same("enter(0, 5): rows 0 to 5", x.enter(0, 5), 63);
        Due.windAlways(x, 2, 3);
        x.wind(0, 0, 3);
        x.wind(1, 0, 3);
        x.wind(2, 0, 3);
        // LEAD goes 2 by STRENGTH 3, so it is out behind three MONTHS from MONTH 0, never from MONTH 1.
        Due.same("enter(1, 3) in MONTH 0", x.enter(1, 3), 63);
        Due.same("enter(0, 60) in MONTH 0", x.enter(0, 60), 0);
        x.month(1);
        Due.same("enter(1, 2): put there now", x.enter(1, 2), 0);
        x.month(11);
        Due.same("enter(1, 3) in MONTH 12", x.enter(1, 3), 63);
    }

    private static void enterOf0To60() {
        FrozenIn x = columnAYear(0);
        Due.same("enter(0, 0): column 0 is not out", x.enter(0, 0), 0);
        Due.same("enter(0, 59)", x.enter(0, 59), 0);
        Due.same("enter(0, 60)", x.enter(0, 60), 63);
        Due.same("enter(3, 60): SHOAL never", x.enter(3, 60), 0);
        Due.bad(x, "enter(0, -1)", () -> x.enter(0, -1));
        Due.bad(x, "enter(0, 61)", () -> x.enter(0, 61));
    }

    private static void enterSooner() {
        FrozenIn x = new FrozenIn();
        for (int m = 5; m < 12; m++) {
            x.wind(m, 2, 1);
        }
        x.floe(0, 0, 0);
        Due.same("then(0, 10): not out any more", x.then(0, 10), 0);
        Due.same("enter(0, 4)", x.enter(0, 4), 0);
        Due.same("enter(0, 5)", x.enter(0, 5), 63);
        Due.same("enter(0, 10)", x.enter(0, 10), 63);
        Due.same("enter(0, 60)", x.enter(0, 60), 63);
    }

    private static void nearestOfUnlikeOnes() {
        FrozenIn x = Due.alone(0, 14, 0, 1);
        x.floe(0, 14, 0);
        Due.same("nearest(0, 1, 0) of two in one CELL", x.nearest(0, 1, 0), 0);
        Due.same("nearest(0, 1, 1) of two in one CELL", x.nearest(0, 1, 1), 0);
        Due.bad(x, "nearest(0, 0, 0)", () -> x.nearest(0, 0, 0));
        Due.bad(x, "nearest(1, 1, 1)", () -> x.nearest(1, 1, 1));
    }

    private static void nearestIn0To60() {
        FrozenIn x = Due.alone(3, 0, 0, 1);
        x.floe(0, 2, 0);
        Due.same("nearest(0, 1, 0) of two that part", x.nearest(0, 1, 0), 0);
        Due.same("nearest(0, 1, 1) of two that part", x.nearest(0, 1, 1), 2);
        FrozenIn y = new FrozenIn();
        Due.windAlways(y, 0, 0);
        y.wind(11, 2, 1);
        y.floe(3, 0, 0);
        y.floe(0, 5, 0);
        Due.same("nearest(0, 1, 0), once a year", y.nearest(0, 1, 0), 60);
        Due.same("nearest(0, 1, 1), once a year", y.nearest(0, 1, 1), 0);
        // Both go to 30: the second is there behind 37 MONTHS, the first one FAR behind 49, there behind 61.
        FrozenIn z = new FrozenIn();
        Due.windAlways(z, 0, 0);
        z.wind(0, 1, 2);
        z.wind(6, 2, 3);
        z.floe(5, 3, 0);
        z.floe(5, 22, 0);
        Due.same("nearest(0, 1, 0), nearer behind 61", z.nearest(0, 1, 0), 49);
        Due.same("nearest(0, 1, 1), nearer behind 61", z.nearest(0, 1, 1), 1);
        z.month(1);
        Due.same("nearest(0, 1, 0), a MONTH later", z.nearest(0, 1, 0), 60);
        Due.same("nearest(0, 1, 1), a MONTH later", z.nearest(0, 1, 1), 0);
    }

    private static void nearestForTheFirstTime() {
        FrozenIn x = Due.alone(0, 0, 0, 0);
        x.floe(0, 35, 0);
        Due.same("nearest(0, 1, 0) in a calm: all alike", x.nearest(0, 1, 0), 0);
        Due.same("nearest(0, 1, 1) in a calm", x.nearest(0, 1, 1), 10);
        FrozenIn y = Due.alone(3, 1, 0, 1);
        y.floe(0, 0, 0);
        // FAR 1, 0, 1, 2 ..; a year of winds back brings FAR 0 again.
        for (int m = 6; m < 12; m++) {
            y.wind(m, 2, 1);
        }
        Due.same("then(1, 12)", y.then(1, 12), 0);
        Due.same("then(1, 10)", y.then(1, 10), 1);
        Due.same("nearest(0, 1, 0): behind 1, and behind 10", y.nearest(0, 1, 0), 1);
        Due.same("nearest(0, 1, 1)", y.nearest(0, 1, 1), 0);
    }

    // ---- dogs

    private static void dogs(FrozenIn x, int months, int toPole) {
        Due.same("dogs(0, 0) from " + x.of(0, 1), x.dogs(0, 0), months);
        Due.same("dogs(0, 1) from " + x.of(0, 1), x.dogs(0, 1), toPole);
    }

    private static void dogsGo2CellsAMonth() {
        for (int cell : new int[] {2, 12, 16, 26, 7, 9, 19, 21}) {
            dogs(Due.alone(0, cell, 0, 0), 2, 1);
        }
        for (int cell : new int[] {1, 3, 6, 10, 17, 18, 22, 25, 27, 32, 0, 4, 11, 24, 28, 33, 31, 23}) {
            dogs(Due.alone(0, cell, 0, 0), 4, 2);
        }
        for (int cell : new int[] {5, 30, 29, 34}) {
            dogs(Due.alone(0, cell, 0, 0), 6, 3);
        }
        dogs(Due.alone(0, 35, 0, 0), 6, 3);
    }

    private static void dogsStayWhileTheFloeDrifts() {
        dogs(Due.alone(0, 14, 0, 0), 1, 1);
        // PLAIN goes to 15, 16: back at 16 behind the second, from the pole where one stayed.
        dogs(Due.alone(0, 14, 0, 1), 2, 1);
        // LEAD goes to 16, 17, 17: 17 is 3 FAR from the pole.
        dogs(Due.alone(1, 14, 0, 3), 3, 1);
        // PLAIN comes to 33, 32, 31, 30; one is at the pole behind the third, 30 is 5 FAR.
        dogs(Due.alone(0, 34, 2, 1), 6, 3);
        // PLAIN drifts to the pole itself.
        FrozenIn x = Due.alone(0, 13, 2, 1);
        x.wind(0, 0, 1);
        dogs(x, 1, 1);
    }

    private static void dogsThatSetOutFromThePole() {
        dogs(Due.alone(0, 14, 1, 0), 1, 1);
        // Had one been at the pole already, 16 and 26 were reached behind the first.
        dogs(Due.alone(1, 14, 0, 3), 3, 1);
        dogs(Due.alone(1, 14, 1, 3), 3, 1);
    }

    private static void dogsBackInTheSameMonth() {
        dogs(Due.alone(1, 12, 0, 3), 1, 1);
        dogs(Due.alone(0, 8, 1, 1), 1, 1);
        dogs(Due.alone(1, 26, 3, 3), 1, 1);
        // PLAIN comes to 16, 15, 14: one is at the pole behind the second, and waits for it there.
        dogs(Due.alone(0, 17, 2, 1), 3, 2);
    }

    private static void dogsFewestMonths() {
        dogs(Due.alone(0, 14, 0, 0), 1, 1);
        // LEAD flees to its corner: 5 or 6 FAR from the pole, which one reaches behind the third.
        dogs(Due.alone(1, 35, 0, 3), 6, 3);
        dogs(Due.alone(1, 35, 1, 3), 6, 3);
        dogs(Due.alone(1, 30, 2, 3), 6, 3);
        // LEAD comes to 33, 31, 30 and stays.
        dogs(Due.alone(1, 35, 2, 3), 6, 3);
    }

    private static void dogsFromEachCell() {
        int[] due = {
            2, 2, 1, 2, 2, 3,
            2, 1, 1, 1, 2, 2,
            1, 1, 1, 1, 1, 2,
            2, 1, 1, 1, 2, 2,
            2, 2, 1, 2, 2, 3,
            3, 2, 2, 2, 3, 3};
        FrozenIn x = Due.alone(0, 0, 0, 0);
        for (int cell = 0; cell < 36; cell++) {
            x.moves(0, cell);
            Due.same("dogs(0, 1) from " + cell, x.dogs(0, 1), due[cell]);
            Due.same("dogs(0, 0) from " + cell, x.dogs(0, 0), cell == 14 ? 1 : 2 * due[cell]);
        }
        Due.same("status(0)", x.status(0), 0);
    }

    // ---- found and notes

    private static void foundFourAtMost() {
        FrozenIn x = new FrozenIn();
        Due.same("count(3) of none", x.count(3), 0);
        for (int i = 1; i <= 4; i++) {
            Due.same("found(0, " + i + ", 35)", x.found(0, i, 35), i);
        }
        Due.full(x, "found(0, 5, 35)", () -> x.found(0, 5, 35));
        long digest = x.digest();
        FrozenIn y = new FrozenIn();
        for (int i = 4; i >= 1; i--) {
            y.found(0, i, 35);
        }
        Due.holds("found come in their order", y.digest() != digest);
    }

    private static void foundFromMonth0On() {
        FrozenIn x = new FrozenIn();
        Due.windAlways(x, 0, 0);
        x.wind(0, 1, 1);
        x.found(0, 1, 20);
        Due.same("whence(1) in MONTH 0", x.whence(1), 14);
        x.month(7);
        Due.same("whence(1) in MONTH 7", x.whence(1), 14);
        Due.same("whence(0) in MONTH 7", x.whence(0), 1);
        // MONTH 0 is even and leaves 0 by 3, whatever the MONTH is now.
        x.forget(0);
        x.found(4, 1, 8);
        Due.same("whence(1) of BACK in MONTH 7", x.whence(1), 14);
        x.found(2, 1, 20);
        Due.same("whence(1): one and the same CELL", x.whence(1), 14);
        x.found(2, 1, 21);
        Due.same("whence(1): no one and the same CELL", x.whence(1), NONE);
    }

    private static void foundBehind1To60() {
        FrozenIn x = columnAYear(0);
        Due.bad(x, "found(0, 0, 0)", () -> x.found(0, 0, 0));
        Due.bad(x, "found(0, 61, 0)", () -> x.found(0, 61, 0));
        x.found(0, 59, 5);
        Due.same("whence(0): columns 1 to 5", x.whence(0), 5);
        Due.same("whence(1): column 1", x.whence(1), 1);
        x.forget(0);
        x.found(0, 60, 5);
        Due.same("whence(0): columns 0 to 5", x.whence(0), 6);
        Due.same("whence(1): column 0", x.whence(1), 0);
        FrozenIn y = new FrozenIn();
        y.found(0, 1, 1);
        Due.same("whence(1) behind 1", y.whence(1), 0);
        Due.same("whence(0) behind 1", y.whence(0), 1);
    }

    private static void fromAllOneAndNone() {
        FrozenIn x = new FrozenIn();
        Due.same("whence(0) by none", x.whence(0), 36);
        Due.same("whence(1) by none", x.whence(1), 0);
        x.found(0, 60, 35);
        Due.same("whence(0): the last row", x.whence(0), 6);
        Due.same("whence(1): the last row", x.whence(1), 30);
        x.found(3, 60, 35);
        Due.same("whence(0): from column 2 on", x.whence(0), 4);
        Due.same("whence(1): from column 2 on", x.whence(1), 32);
        x.found(0, 3, 35);
        Due.same("whence(0): from column 2 on still", x.whence(0), 4);
        x.found(0, 3, 34);
        Due.same("whence(0): none", x.whence(0), 0);
        Due.same("whence(1): none", x.whence(1), NONE);
        Due.same("status(0)", x.status(0), 0);
        FrozenIn y = new FrozenIn();
        Due.windAlways(y, 0, 0);
        y.found(0, 60, 35);
        Due.same("whence(0): the last CELL alone", y.whence(0), 1);
        Due.same("whence(1): the last CELL alone", y.whence(1), 35);
    }

    private static void notesSixAtMost() {
        FrozenIn x = Due.alone(0, 0, 0, 0);
        Due.same("count(4) of none", x.count(4), 0);
        for (int i = 1; i <= 6; i++) {
            int m = i;
            Due.same("note in MONTH " + i, x.note(0, m, 0, 0, 0, 0, 0), i);
        }
        Due.full(x, "note(0, 7, 0, 0, 0, 0, 0)", () -> x.note(0, 7, 0, 0, 0, 0, 0));
        FrozenIn y = Due.alone(0, 0, 0, 0);
        for (int i = 6; i >= 1; i--) {
            y.note(0, i, 0, 0, 0, 0, 0);
        }
        Due.holds("notes come in their order", x.digest() != y.digest());
    }

    /** IS of a FLOE by just this note. */
    private static int by(int m, int w, int s, int c, int y, int n) {
        FrozenIn x = new FrozenIn();
        x.floe(0, 0, 0);
        x.note(0, m, w, s, c, y, n);
        return x.is(0);
    }

    private static void notesOfMonths0To99() {
        FrozenIn x = Due.alone(0, 0, 0, 0);
        Due.bad(x, "a note of MONTH -1", () -> x.note(0, -1, 0, 0, 0, 0, 0));
        Due.bad(x, "a note of MONTH 100", () -> x.note(0, 100, 0, 0, 0, 0, 0));
        Due.same("is(0) in MONTH 0: BACK goes the opposite", by(0, 0, 1, 2, 2, 1), 16);
        Due.same("is(0) in MONTH 99: BACK goes the opposite of the right", by(99, 0, 1, 2, 3, 1), 16);
        Due.same("is(0) in MONTH 99: RING goes right", by(99, 0, 1, 2, 1, 1), 4);
    }

    private static void notesOfColumns0To5() {
        FrozenIn x = Due.alone(0, 0, 0, 0);
        Due.bad(x, "a note of column -1", () -> x.note(0, 0, 0, 0, -1, 0, 0));
        Due.bad(x, "a note of column 6", () -> x.note(0, 0, 0, 0, 6, 0, 0));
        // No CELLS by STRENGTH 1: SHOAL up to column 1, SPLIT from column 3 on.
        int[] due = {8, 8, 0, 32, 32, 32};
        for (int c = 0; c < 6; c++) {
            Due.same("is(0) by no CELLS from column " + c, by(1, 0, 1, c, 0, 0), due[c]);
        }
    }

    private static void notesOf0To3Cells() {
        FrozenIn x = Due.alone(0, 0, 0, 0);
        Due.bad(x, "a note of -1 CELLS", () -> x.note(0, 0, 0, 0, 0, 0, -1));
        Due.bad(x, "a note of 4 CELLS", () -> x.note(0, 0, 0, 0, 0, 0, 4));
        // MONTH 2 has all go as the wind; by STRENGTH 3 from column 2 LEAD and SPLIT go 2.
        int[] due = {0, 29, 34, 0};
        for (int n = 0; n <= 3; n++) {
            Due.same("is(0) by " + n + " CELLS", by(2, 0, 3, 2, 0, n), due[n]);
        }
    }

    private static void notesOfNoCells() {
        for (int y = 0; y < 4; y++) {
            Due.same("is(0) by no CELLS, WAY " + y, by(1, 0, 0, 2, y, 0), 63);
            Due.same("is(0) by no CELLS, WAY " + y + ", of SHOAL", by(1, 0, 1, 0, y, 0), 8);
            Due.same("is(0) by 1 CELL, WAY " + y, by(2, 0, 1, 2, y, 1), y == 0 ? 63 : 0);
        }
        FrozenIn x = Due.alone(0, 0, 0, 0);
        Due.bad(x, "a note of WAY 4, no CELLS", () -> x.note(0, 0, 0, 0, 0, 4, 0));
        Due.bad(x, "a note of WAY -1, no CELLS", () -> x.note(0, 0, 0, 0, 0, -1, 0));
    }

    private static void isAllSomeAndNone() {
        FrozenIn x = Due.alone(0, 0, 0, 0);
        x.floe(0, 0, 0);
        Due.same("is(0) without NOTES", x.is(0), 63);
        x.note(1, 0, 0, 1, 2, 2, 1);
        Due.same("is(0) without NOTES of its own", x.is(0), 63);
        Due.same("is(1)", x.is(1), 16);
        x.note(0, 1, 0, 1, 2, 1, 1);
        Due.same("is(0): RING, BACK", x.is(0), 20);
        x.note(0, 3, 0, 1, 2, 1, 1);
        Due.same("is(0): RING", x.is(0), 4);
        x.note(0, 3, 0, 1, 2, 3, 1);
        Due.same("is(0): none", x.is(0), 0);
        Due.same("is(1), still", x.is(1), 16);
    }

    private static void waitsUpTo11() {
        FrozenIn x = Due.alone(0, 0, 0, 0);
        x.wind(11, 0, 3);
        Due.same("waits(0) in MONTH 0", x.waits(0), 11);
        x.month(11);
        Due.same("waits(0) in MONTH 11", x.waits(0), 0);
        x.month(1);
        Due.same("waits(0) in MONTH 12", x.waits(0), 11);
        x.month(60);
        x.month(27);
        Due.same("waits(0) in MONTH 99", x.waits(0), 8);
    }

    private static void waitsByWayAndCells() {
        FrozenIn x = Due.alone(0, 0, 0, 0);
        // LEAD and PLAIN: by CELLS unlike at STRENGTH 3 alone.
        x.wind(2, 0, 1);
        x.wind(4, 0, 3);
        x.note(0, 1, 0, 1, 0, 0, 1);
        x.note(0, 1, 0, 1, 3, 0, 1);
        Due.same("is(0): PLAIN, LEAD", x.is(0), 3);
        Due.same("waits(0)", x.waits(0), 4);
        // All six, STRENGTH 3, column 0: three PLAIN ones in MONTH 0; in MONTH 1 two each, by WAY, by CELLS.
        x.forget(1);
        x.wind(0, 0, 3);
        x.wind(1, 0, 3);
        x.wind(4, 0, 0);
        Due.same("waits(0): all six", x.waits(0), 1);
        // All but SHOAL: two each in MONTH 0, too, with BACK alone, which is not alike to two CELLS the other WAY.
        x.note(0, 2, 0, 1, 0, 0, 1);
        x.wind(0, 2, 3);
        Due.same("is(0): all but SHOAL", x.is(0), 55);
        Due.same("waits(0): all but SHOAL", x.waits(0), 0);
        // PLAIN and RING: by WAY unlike in odd MONTHS alone.
        FrozenIn y = Due.alone(0, 0, 0, 0);
        y.wind(2, 0, 1);
        y.wind(5, 0, 1);
        y.note(0, 0, 0, 1, 0, 0, 1);
        y.note(0, 0, 0, 3, 2, 0, 1);
        Due.same("is(0): PLAIN, RING", y.is(0), 5);
        Due.same("waits(0)", y.waits(0), 5);
        // PLAIN and SHOAL: unlike from its column as it is now, 0 or 1, not 2.
        FrozenIn z = Due.alone(0, 20, 0, 0);
        z.wind(6, 0, 1);
        z.note(0, 1, 0, 3, 2, 0, 1);
        Due.same("is(0): PLAIN, SHOAL", z.is(0), 9);
        Due.same("waits(0) from column 2", z.waits(0), 0);
        z.moves(0, 19);
        Due.same("waits(0) from column 1", z.waits(0), 6);
    }

    private static void waitsAlikeInACalm() {
        FrozenIn x = Due.alone(0, 2, 0, 0);
        for (int m = 0; m < 12; m++) {
            x.wind(m, m % 4, 0);
        }
        Due.same("waits(0): all calm, whatever the WAY", x.waits(0), 0);
        x.wind(2, 0, 1);
        // In MONTH 2 all go as the wind; in odd MONTHS a calm has RING and BACK alike with the others.
        Due.same("waits(0): calm or all as the wind", x.waits(0), 0);
        x.wind(4, 0, 1);
        x.moves(0, 3);
        // From column 3 SPLIT does not go by STRENGTH 1: five alike are fewer than six.
        Due.same("waits(0) from column 3", x.waits(0), 2);
    }

    private static void waitsFirstAndNone() {
        FrozenIn x = Due.alone(0, 0, 0, 0);
        x.wind(5, 0, 3);
        x.wind(7, 0, 3);
        Due.same("waits(0): 5 and 7 are alike", x.waits(0), 5);
        x.month(6);
        Due.same("waits(0): 7, 17 and 19 are alike", x.waits(0), 1);
        x.note(0, 2, 0, 1, 0, 0, 1);
        Due.same("is(0)", x.is(0), 55);
        x.note(0, 2, 0, 1, 0, 0, 0);
        Due.same("is(0)", x.is(0), 0);
        Due.same("waits(0): no KIND", x.waits(0), NONE);
        Due.same("status(0)", x.status(0), 0);
        x.forget(1);
        x.note(0, 1, 0, 1, 0, 0, 0);
        Due.same("is(0): SHOAL alone", x.is(0), 8);
        Due.same("waits(0): SHOAL alone", x.waits(0), 0);
    }

    // ---- two who leave

    private static void leaves(FrozenIn x, int a, int b, int... due) {
        Due.same("leave(" + a + ", " + b + ", -1)", x.leave(a, b, NONE), due.length);
        for (int k = 0; k < due.length; k++) {
            Due.same("leave(" + a + ", " + b + ", " + k + ")", x.leave(a, b, k), due[k]);
        }
        Due.same("leave(" + a + ", " + b + ", " + due.length + ")", x.leave(a, b, due.length), -5);
    }

    private static FrozenIn twoInACalm(int cellA, int foodA, int cellB, int foodB) {
        FrozenIn x = new FrozenIn();
        Due.windAlways(x, 0, 0);
        x.floe(0, cellA, foodA);
        x.floe(0, cellB, foodB);
        return x;
    }

    private static void leaveUnlikeOnes() {
        FrozenIn x = twoInACalm(14, 9, 14, 9);
        leaves(x, 0, 1, 1, 6);
        leaves(x, 1, 0, 1, 6);
        Due.refused(x, "leave(0, 0, 0)", () -> x.leave(0, 0, 0), -10, 0);
        Due.refused(x, "leave(1, 1, -1)", () -> x.leave(1, 1, NONE), -10, 0);
    }

    private static void leaveBehind0To5() {
        FrozenIn x = new FrozenIn();
        Due.windAlways(x, 2, 1);
        x.floe(3, 0, 0);
        x.floe(0, 11, 0);
        // No FOOD, FAR 6, 5, 4, 3, 2, 1: the later the better, but not both at once.
        leaves(x, 0, 1, 29, 34);
        leaves(twoInACalm(0, 60, 35, 60), 0, 1, 1, 6);
    }

    private static void leaveForFoodThatIsNotBelow0() {
        // Who leaves the first finds no FOOD whenever; who leaves the second finds 10, 9, 8 ..
        FrozenIn x = twoInACalm(0, 10, 1, 0);
        leaves(x, 0, 1, 1, 6, 12, 18, 24, 30);
        leaves(x, 1, 0, 1, 2, 3, 4, 5, 6);
        // 1, 0, 0 .. for both: were FOOD below 0, the later MONTHS would not be as good as the second.
        leaves(twoInACalm(0, 1, 1, 1), 0, 1, 1, 2, 3, 4, 5, 6, 12, 18, 24, 30);
        // No FOOD at all: any two MONTHS that are unlike.
        leaves(twoInACalm(0, 0, 1, 0), 0, 1, 1, 2, 3, 4, 5, 6, 8, 9, 10, 11, 12, 13, 15, 16, 17, 18, 19, 20, 22, 23,
                24, 25, 26, 27, 29, 30, 31, 32, 33, 34);
    }

    private static void leaveLessFar() {
        FrozenIn x = new FrozenIn();
        Due.windAlways(x, 0, 0);
        x.wind(0, 0, 1);
        x.wind(1, 0, 1);
        x.floe(3, 5, 60);
        x.floe(0, 3, 60);
        // FAR 2, 1, 0, 0 ..: 58, 58, 58, 57, 56, 55.
        leaves(x, 0, 1, 1, 2, 6, 8, 12, 13);
    }

    private static void leaveTogetherIs5Less() {
        FrozenIn x = new FrozenIn();
        Due.windAlways(x, 0, 0);
        x.wind(0, 0, 3);
        x.floe(1, 2, 60);
        x.floe(4, 2, 60);
        // They part by 3 in the first MONTH, FOOD is 1 less: 4 less is better than 5 less.
        leaves(x, 0, 1, 1, 6);
    }

    private static void leaveWhereNeitherGetsMore() {
        // Who leaves the second gets 59 less the MONTH, and 5 less with the other one.
        FrozenIn x = twoInACalm(0, 60, 1, 60);
        leaves(x, 0, 1, 1, 6);
        // As much by another MONTH is not more.
        leaves(twoInACalm(0, 0, 35, 60), 0, 1, 1, 2, 3, 4, 5, 6);
    }

    private static void leaveTheKth() {
        FrozenIn x = twoInACalm(0, 10, 1, 0);
        Due.same("leave(0, 1, -1)", x.leave(0, 1, NONE), 6);
        int[] due = {1, 6, 12, 18, 24, 30};
        for (int k = 0; k < 6; k++) {
            Due.same("leave(0, 1, " + k + ")", x.leave(0, 1, k), due[k]);
        }
        for (int k : new int[] {6, 7, 35, 36, Integer.MAX_VALUE}) {
            Due.same("leave(0, 1, " + k + ")", x.leave(0, 1, k), -5);
        }
        Due.same("status(0) behind -5", x.status(0), 0);
        Due.refused(x, "leave(0, 1, -2)", () -> x.leave(0, 1, -2), -10, 0);
    }

    // ---- calms and years

    private static void chance(FrozenIn x, int m, int c, long above, long below) {
        Due.same("calms(0, " + m + ", " + c + ")", x.calms(0, m, c), 1);
        Due.same("part(0) of calms(0, " + m + ", " + c + ")", x.part(0), above);
        Due.same("part(1) of calms(0, " + m + ", " + c + ")", x.part(1), below);
    }

    private static void calmsBy0To10() {
        FrozenIn x = Due.alone(0, 4, 0, 1);
        chance(x, 1, 0, 1, 1);
        chance(x, 1, 1, 9, 10);
        chance(x, 1, 5, 1, 2);
        chance(x, 1, 9, 1, 10);
        chance(x, 1, 10, 0, 1);
        chance(x, 8, 0, 1, 1);
        chance(x, 8, 10, 0, 1);
        // Apart: a calm in each of two MONTHS is 3 of 10 times 3 of 10.
        chance(x, 2, 3, 91, 100);
        Due.bad(x, "calms(0, 1, -1)", () -> x.calms(0, 1, -1));
        Due.bad(x, "calms(0, 1, 11)", () -> x.calms(0, 1, 11));
    }

    private static void calmsBehind0To8() {
        FrozenIn x = Due.alone(0, 0, 0, 1);
        chance(x, 0, 0, 0, 1);
        chance(x, 4, 0, 0, 1);
        chance(x, 5, 0, 1, 1);
        // Five winds or more of eight: 56 + 28 + 8 + 1 of 256.
        chance(x, 8, 5, 93, 256);
        x.moves(0, 5);
        chance(x, 0, 5, 1, 1);
        FrozenIn y = Due.alone(0, 4, 2, 1);
        y.wind(0, 0, 1);
        chance(y, 1, 0, 1, 1);
        chance(y, 2, 0, 0, 1);
        FrozenIn z = Due.alone(0, 4, 0, 0);
        z.wind(7, 0, 1);
        chance(z, 7, 1, 0, 1);
        chance(z, 8, 1, 9, 10);
        Due.bad(z, "calms(0, -1, 1)", () -> z.calms(0, -1, 1));
        Due.bad(z, "calms(0, 9, 1)", () -> z.calms(0, 9, 1));
    }

    private static void yearsBySeed0To999999() {
        // The first winds of 999999 are 0 2, 2 1; of 0 they are 0 0, 0 1; of 1 they are 2 0, 2 3.
        FrozenIn x = Due.alone(0, 4, 3, 3);
        int[] due999999 = {0, 1, 0};
        int[] due0 = {0, 0, 1};
        for (int n = 0; n <= 2; n++) {
            Due.same("years(999999, " + n + ")", x.years(999999, n), due999999[n]);
            Due.same("years(0, " + n + ")", x.years(0, n), due0[n]);
        }
        x.moves(0, 5);
        Due.same("years(1, 1)", x.years(1, 1), 1);
        Due.same("years(1, 2)", x.years(1, 2), 0);
        Due.bad(x, "years(-1, 1)", () -> x.years(-1, 1));
        Due.bad(x, "years(1000000, 1)", () -> x.years(1000000, 1));
    }

    private static void yearsOf0To60() {
        // By SEED 999962 PLAIN from column 5 is in 4 behind 58 and 59 MONTHS, in 5 behind 60.
        FrozenIn x = Due.alone(0, 5, 0, 0);
        Due.same("years(999962, 0)", x.years(999962, 0), 1);
        Due.same("years(999962, 58)", x.years(999962, 58), 0);
        Due.same("years(999962, 59)", x.years(999962, 59), 0);
        Due.same("years(999962, 60)", x.years(999962, 60), 1);
        Due.bad(x, "years(0, -1)", () -> x.years(0, -1));
        Due.bad(x, "years(0, 61)", () -> x.years(0, 61));
    }

    private static void yearsLeftOver() {
        // By SEED 0 X is 12345, 1406932606, 654583775, 1449466924, 229283573: winds 0 0, 0 1, 0 0, 1 2, 2 2.
        FrozenIn x = Due.alone(0, 4, 3, 3);
        int[] due = {0, 0, 1, 1, 1, 0};
        for (int n = 0; n <= 5; n++) {
            Due.same("years(0, " + n + ")", x.years(0, n), due[n]);
        }
        // RING in MONTH 3 goes the right of 1 2: the column ahead.
        FrozenIn y = Due.alone(2, 5, 3, 3);
        Due.same("years(0, 3) of RING", y.years(0, 3), 1);
        Due.same("years(0, 4) of RING", y.years(0, 4), 0);
    }

    private static void yearsWaysAndStrengths() {
        // By SEED 5 the winds are 3 1, 1 0, 0 3, 1 0, 1 1, 0 2, 0 3.
        FrozenIn x = Due.alone(0, 2, 3, 3);
        int[] plain = {0, 0, 0, 0, 0, 0, 0, 1};
        FrozenIn y = Due.alone(1, 0, 3, 3);
        int[] lead = {0, 0, 0, 0, 0, 0, 0, 1};
        FrozenIn z = Due.alone(1, 2, 3, 3);
        int[] leadFrom2 = {0, 0, 0, 0, 0, 0, 1, 1};
        for (int n = 0; n <= 7; n++) {
            Due.same("years(5, " + n + ") of PLAIN from column 2", x.years(5, n), plain[n]);
            Due.same("years(5, " + n + ") of LEAD from column 0", y.years(5, n), lead[n]);
            Due.same("years(5, " + n + ") of LEAD from column 2", z.years(5, n), leadFrom2[n]);
        }
    }

    private static void yearsWayIsCut() {
        FrozenIn x = Due.alone(0, 4, 3, 3);
        // 714866688 is 10908 times 65536: WAY 0; 1729429503 is 1 less than 26389 times: WAY 0, not 1.
        Due.same("years(239235, 1)", x.years(239235, 1), 1);
        Due.same("years(441118, 1)", x.years(441118, 1), 1);
    }

    private static void yearsStrengthIsCut() {
        FrozenIn x = Due.alone(0, 4, 3, 3);
        // 1682964480 is 1605 times 1048576: STRENGTH 1, WAY 0.
        Due.same("years(501379, 1)", x.years(501379, 1), 1);
        // 202375167 is 1 less than 193 times: STRENGTH 0, not 1; WAY 3, of which RING would go the right.
        FrozenIn y = Due.aloneInMonth(1, 2, 4, 3, 3);
        Due.same("years(899870, 1)", y.years(899870, 1), 0);
    }

    private static void yearsCountAllFloes() {
        FrozenIn x = new FrozenIn();
        Due.same("years(0, 60) of none", x.years(0, 60), 0);
        for (int i = 0; i < 5; i++) {
            x.floe(0, 5 + 6 * i, 0);
        }
        Due.same("years(0, 0) of five out", x.years(0, 0), 5);
        Due.same("years(0, 4) of five out", x.years(0, 4), 5);
        Due.same("years(0, 5) of five that go back", x.years(0, 5), 0);
    }

    // ---- undone, images, status

    private static void undoneOneByOne() {
        FrozenIn x = Due.alone(0, 0, 0, 1);
        x.sea(10);
        x.floe(0, 0, 9);
        x.month(13);
        x.feed(0, 3);
        x.moves(0, 17);
        x.month(2);
        int[] months = {23, 23, 23, 10};
        int[] cells = {17, 5, 5, 0};
        int[] foods = {3, 3, 0, 9};
        for (int i = 0; i < 4; i++) {
            Due.same("undo()", x.undo(), months[i]);
            Due.same("count(1)", x.count(1), months[i]);
            Due.same("of(0, 1)", x.of(0, 1), cells[i]);
            Due.same("of(0, 2)", x.of(0, 2), foods[i]);
        }
        Due.refused(x, "undo() of none", x::undo, NO, 1);
    }

    private static void undoneEightAtMost() {
        FrozenIn x = Due.alone(0, 0, 0, 0);
        for (int i = 1; i <= 9; i++) {
            x.moves(0, i);
            Due.same("count(5) behind " + i, x.count(5), Math.min(8, i));
        }
        for (int i = 8; i >= 1; i--) {
            Due.same("undo()", x.undo(), 0);
            Due.same("of(0, 1)", x.of(0, 1), i);
            Due.same("count(5)", x.count(5), i - 1);
        }
        Due.refused(x, "undo(), a ninth", x::undo, NO, 1);
        Due.same("of(0, 1)", x.of(0, 1), 1);
    }

    private static void undoneNoneBehindFloeOrWind() {
        FrozenIn x = new FrozenIn();
        x.month(1);
        x.floe(0, 0, 0);
        Due.same("count(5) behind a FLOE", x.count(5), 0);
        Due.refused(x, "undo() behind a FLOE", x::undo, NO, 1);
        x.month(1);
        x.feed(0, 1);
        x.wind(11, 0, 1);
        Due.same("count(5) behind a WIND, told as it was", x.count(5), 0);
        Due.refused(x, "undo() behind a WIND", x::undo, NO, 1);
        x.month(1);
        x.wind(12, 0, 1);
        x.floe(0, 36, 0);
        Due.same("count(5) behind those refused", x.count(5), 1);
        Due.same("undo() behind those refused", x.undo(), 2);
    }

    private static void imagesKeepAllBut() {
        FrozenIn x = Due.alone(2, 4, 1, 2);
        x.floe(0, 9, 9);
        x.found(1, 2, 3);
        x.note(1, 2, 3, 1, 5, 3, 1);
        x.month(3);
        long kept = x.digest();
        x.image(0);
        x.sea(5);
        x.image(1);
        x.floe(0, 5, 0);
        x.calms(0, 0, 0);
        Due.write(x, "sea");
        x.undo();
        x.from(0);
        Due.same("part(0): images keep no fraction", x.part(0), 1);
        Due.same("status(1): images keep no status", x.status(1), 1);
        Due.same("clear(): images keep no text", x.clear(), 3);
        x.floe(0, 0, 0);
        x.calms(2, 0, 0);
        x.from(0);
        Due.same("digest() from the first", x.digest(), kept);
        x.forget(0);
        x.forget(1);
        x.found(5, 60, 35);
        x.note(0, 9, 1, 2, 3, 1, 2);
        for (int m = 0; m < 12; m++) {
            x.wind(m, 3, 0);
        }
        x.from(0);
        Due.same("digest() from the first, once more", x.digest(), kept);
        Due.same("from(1): images keep no images", x.from(1), 1);
        Due.same("count(1) from the second", x.count(1), 5);
        Due.same("count(0) from the second", x.count(0), 0);
        Due.bad(x, "image(2)", () -> x.image(2));
        Due.bad(x, "from(-1)", () -> x.from(-1));
    }

    private static void imagesKeepWhatMayBeUndone() {
        FrozenIn x = Due.alone(0, 0, 0, 0);
        for (int i = 1; i <= 9; i++) {
            x.moves(0, i);
        }
        x.image(1);
        x.wind(0, 0, 0);
        Due.same("count(5) behind a WIND", x.count(5), 0);
        for (int i = 1; i <= 9; i++) {
            x.feed(0, i);
        }
        x.from(1);
        Due.same("count(5) from the image", x.count(5), 8);
        for (int i = 8; i >= 1; i--) {
            Due.same("undo() from the image", x.undo(), 0);
            Due.same("of(0, 1) from the image", x.of(0, 1), i);
        }
        Due.refused(x, "undo(), a ninth", x::undo, NO, 1);
    }

    private static void goesOnFromAnImage() {
        FrozenIn x = Due.alone(0, 0, 0, 1);
        x.image(0);
        for (int i = 0; i < 2; i++) {
            x.month(2);
            Due.same("of(0, 1), gone on", x.of(0, 1), 2);
            x.feed(0, 7);
            Due.same("from(0)", x.from(0), 1);
            Due.same("of(0, 1) from the image", x.of(0, 1), 0);
            Due.same("of(0, 2) from the image", x.of(0, 2), 0);
            Due.same("count(1) from the image", x.count(1), 0);
            Due.same("count(5) from the image", x.count(5), 0);
        }
    }

    private static void statusCountsEachRefusal() {
        FrozenIn x = new FrozenIn();
        x.undo();
        x.undo();
        x.from(0);
        x.of(0, 0);
        x.leave(0, 1, 0);
        for (int i = 0; i < 6; i++) {
            x.floe(0, 0, 0);
        }
        Due.same("status(0): of, leave", x.status(0), 2);
        Due.same("status(1): undo, undo, from", x.status(1), 3);
        Due.same("status(2): a sixth FLOE", x.status(2), 1);
        x.status(3);
        Due.same("status(0): status, too", x.status(0), 3);
        // Answers below 0 that are not told as refusals.
        x.out(0);
        Due.windAlways(x, 0, 0);
        Due.same("out(0)", x.out(0), NONE);
        Due.same("leave(0, 1, 99)", x.leave(0, 1, 99), -5);
        Due.same("read()", x.read(), -10);
        Due.same("status(0), still", x.status(0), 3);
        Due.same("status(1), still", x.status(1), 3);
        Due.same("status(2), still", x.status(2), 1);
    }
}
