/** Section 1 of the terms: each sentence that names an edge, with its own test. */
public final class Section1EdgeTest {
    private static final int BAD = FrozenIn.BAD;

    private Section1EdgeTest() {
    }

    public static void main(String[] args) {
        Edges edges = new Edges();
        tell(edges);
        edges.run();
    }

    static void tell(Edges edges) {
        edges.in(Document.SECTION_1);
        edges.sentence("CELLS 0 .. 35", Section1EdgeTest::cellsAre0To35);
        edges.sentence("6 times the row (0 .. 5) and the column (0 .. 5)", Section1EdgeTest::rowsDoNotRunIntoOneAnother);
        edges.sentence("FAR: rows and columns between two", Section1EdgeTest::farIsRowsAndColumns);
        edges.sentence("WAYS 0 next column, 1 next row, 2 column ahead, 3 row ahead", Section1EdgeTest::waysAre0To3);
        edges.sentence("the right of a WAY: 1 more by 4 left over", Section1EdgeTest::rightOfWay3IsWay0);
        edges.sentence("WINDS of the 12 MONTHS of a year (MONTH m has that of m by 12 left over)", Section1EdgeTest::windsComeAgainBehind12Months);
        edges.sentence("a WAY, a STRENGTH (0 .. 3)", Section1EdgeTest::strengthsAre0To3);
        edges.sentence("0, 1 at first", Section1EdgeTest::windsAtFirst);
        edges.sentence("FLOES 0 .. 4, as they come", Section1EdgeTest::floesAre0To4AsTheyCome);
        edges.sentence("FOOD (0 .. 60)", Section1EdgeTest::foodIs0To60);
        edges.sentence("MONTHS have numbers, 0 at first (999 at most)", Section1EdgeTest::monthsAre0To999);
        edges.sentence("OUT: a FLOE in column 5", Section1EdgeTest::outIsColumn5Alone);
        edges.sentence("THE POLE: CELL 14", Section1EdgeTest::poleIsCell14);
        tellKinds(edges);
        tellMonths(edges);
        tellText(edges);
        tellFaults(edges);
        tellWhatReadReplaces(edges);
    }

    private static void tellKinds(Edges edges) {
        edges.sentence("0 PLAIN: w; 1, if s is 1 or more, else 0", Section1EdgeTest::plainFromStrength1On);
        edges.sentence("as PLAIN; 1 more than PLAIN, if s is 3", Section1EdgeTest::leadAtStrength3Alone);
        edges.sentence("the right of PLAIN in MONTHS of an odd number; as PLAIN", Section1EdgeTest::ringInOddMonths);
        edges.sentence("0, if c is 1 or less and s is below 2, else as PLAIN", Section1EdgeTest::shoalUpToColumn1AndStrength1);
        edges.sentence("the opposite of RING in MONTHS that leave 0 by 3, else as RING; as RING", Section1EdgeTest::backInEachThirdMonth);
        edges.sentence("1 less than LEAD, 0 at least, if c is 3 or more, else as LEAD", Section1EdgeTest::splitFromColumn3On);
        edges.sentence("1 less than LEAD, 0 at least", Section1EdgeTest::splitDoesNotGoBackwards);
    }

    private static void tellMonths(Edges edges) {
        edges.sentence("each FLOE drifts CELL by CELL its WAY, as many as told", Section1EdgeTest::twoCellsEachWay);
        edges.sentence("(by the column ahead of it;", Section1EdgeTest::columnAheadOfTheMonthCounts);
        edges.sentence("not off the sea: it stays at its edge)", Section1EdgeTest::floesStayAtTheEdge);
        edges.sentence("FOOD of each is 1 less (0 at least)", Section1EdgeTest::foodIsNotBelow0);
        edges.sentence("the MONTH is one more", Section1EdgeTest::monthIsOneMore);
    }

    private static void tellText(Edges edges) {
        edges.sentence("THE SEA is told by a TEXT (150 bytes at most)", Section1EdgeTest::textOf150Bytes);
        edges.sentence("of ITEMS, each ended by ;", Section1EdgeTest::lastItemIsEndedToo);
        edges.sentence("sea MONTH (0 .. 99; once, first of all)", Section1EdgeTest::seaMonthIs0To99);
        edges.sentence("once, first of all", Section1EdgeTest::seaComesOnceAndFirst);
        edges.sentence("wind m WAY STRENGTH (m 0 .. 11)", Section1EdgeTest::windItemsNumbers);
        edges.sentence("floe KIND CELL FOOD", Section1EdgeTest::floeItemsNumbers);
        edges.sentence("words of letters a .. z", Section1EdgeTest::lettersAreSmallAToZ);
        edges.sentence("figures (1 or 2 are one number)", Section1EdgeTest::oneOrTwoFigures);
        edges.sentence("blanks (32), any number, ahead of, between and behind TOKENS", Section1EdgeTest::blanksAnywhere);
        edges.sentence("blanks (32)", Section1EdgeTest::only32IsABlank);
        edges.sentence("(needed only between two words, two numbers)", Section1EdgeTest::blanksNeededBetweenTwoNumbers);
    }

    private static void tellFaults(Edges edges) {
        edges.sentence("FAULT: the place of the first byte of the first TOKEN that can not stand there", Section1EdgeTest::faultIsTheFirst);
        edges.sentence("a word that is none", Section1EdgeTest::faultAtAWordThatIsNone);
        edges.sentence("sea again", Section1EdgeTest::faultAtSeaAgain);
        edges.sentence("anything ahead of it", Section1EdgeTest::faultAtAnythingAheadOfSea);
        edges.sentence("a 6th floe at its word", Section1EdgeTest::faultAtTheSixthFloe);
        edges.sentence("a run of three figures or more (at its first one)", Section1EdgeTest::faultAtThreeFigures);
        edges.sentence("a number not as told", Section1EdgeTest::faultAtANumberNotAsTold);
        edges.sentence("a byte that begins none, too", Section1EdgeTest::faultAtAByteThatBeginsNone);
        edges.sentence("the TEXT's length, if it ends too early", Section1EdgeTest::faultAtTheLength);
        edges.sentence("(an empty one, too)", Section1EdgeTest::faultOfAnEmptyText);
    }

    private static void tellWhatReadReplaces(Edges edges) {
        edges.sentence("A SEA that is read takes the place of all", Section1EdgeTest::readReplacesTheSea);
        edges.sentence("all but IMAGES, THE TEXT, THE FRACTION, STATUS", Section1EdgeTest::readLeavesTheRest);
        edges.sentence("(NOTES, FOUND none; nothing to undo)", Section1EdgeTest::readLeavesNoNotesFoundOrUndo);
    }

    // ---- cells, winds, floes

    private static void cellsAre0To35() {
        FrozenIn x = new FrozenIn();
        Due.bad(x, "floe(0, -1, 0)", () -> x.floe(0, -1, 0));
        Due.bad(x, "floe(0, 36, 0)", () -> x.floe(0, 36, 0));
        Due.same("floe(0, 0, 0)", x.floe(0, 0, 0), 0);
        Due.same("floe(0, 35, 0)", x.floe(0, 35, 0), 1);
        Due.bad(x, "moves(0, -1)", () -> x.moves(0, -1));
        Due.bad(x, "moves(0, 36)", () -> x.moves(0, 36));
        Due.same("moves(0, 35)", x.moves(0, 35), 0);
        Due.same("moves(1, 0)", x.moves(1, 0), 35);
        Due.bad(x, "found(0, 1, -1)", () -> x.found(0, 1, -1));
        Due.bad(x, "found(0, 1, 36)", () -> x.found(0, 1, 36));
        Due.same("found(0, 1, 0)", x.found(0, 1, 0), 1);
        Due.same("found(0, 1, 35)", x.found(0, 1, 35), 2);
    }

    private static void rowsDoNotRunIntoOneAnother() {
        int[] cells = {5, 11, 29, 35, 6, 12, 30, 0, 30, 35, 0, 5};
        int[] ways = {0, 0, 0, 0, 2, 2, 2, 2, 1, 1, 3, 3};
        for (int i = 0; i < cells.length; i++) {
            Due.same("then(0, 1) from " + cells[i] + " by WAY " + ways[i], Due.alone(0, cells[i], ways[i], 1).then(0, 1), cells[i]);
        }
        Due.same("then(0, 1) from 0, next row", Due.alone(0, 0, 1, 1).then(0, 1), 6);
        Due.same("then(0, 1) from 5, next row", Due.alone(0, 5, 1, 1).then(0, 1), 11);
        Due.same("then(0, 1) from 30, row ahead", Due.alone(0, 30, 3, 1).then(0, 1), 24);
        Due.same("then(0, 1) from 35, row ahead", Due.alone(0, 35, 3, 1).then(0, 1), 29);
        Due.same("then(0, 1) from 30, next column", Due.alone(0, 30, 0, 1).then(0, 1), 31);
        Due.same("then(0, 1) from 5, column ahead", Due.alone(0, 5, 2, 1).then(0, 1), 4);
    }

    private static void far(int a, int b, int due) {
        FrozenIn x = Due.alone(0, a, 0, 0);
        x.floe(0, b, 0);
        Due.same("nearest(0, 1, 1) of " + a + " and " + b, x.nearest(0, 1, 1), due);
        Due.same("nearest(1, 0, 1) of " + a + " and " + b, x.nearest(1, 0, 1), due);
    }

    private static void farIsRowsAndColumns() {
        far(14, 14, 0);
        far(0, 35, 10);
        far(5, 30, 10);
        far(0, 5, 5);
        far(0, 30, 5);
        far(5, 6, 6);
        far(0, 6, 1);
        far(0, 1, 1);
        far(8, 21, 3);
        far(9, 20, 3);
    }

    private static void waysAre0To3() {
        int[] due = {15, 20, 13, 8};
        for (int way = 0; way < 4; way++) {
            Due.same("then(0, 1) from 14 by WAY " + way, Due.alone(0, 14, way, 1).then(0, 1), due[way]);
        }
        FrozenIn x = new FrozenIn();
        Due.bad(x, "wind(0, -1, 0)", () -> x.wind(0, -1, 0));
        Due.bad(x, "wind(0, 4, 0)", () -> x.wind(0, 4, 0));
    }

    private static void rightOfWay3IsWay0() {
        int[] due = {20, 13, 8, 15};
        for (int way = 0; way < 4; way++) {
            Due.same("then(0, 1) of RING in MONTH 1 by WAY " + way, Due.aloneInMonth(1, 2, 14, way, 1).then(0, 1), due[way]);
        }
    }

    private static void windsComeAgainBehind12Months() {
        FrozenIn x = Due.aloneInMonth(11, 0, 14, 0, 0);
        x.wind(11, 0, 1);
        x.wind(0, 1, 1);
        Due.same("then(0, 1) from MONTH 11", x.then(0, 1), 15);
        Due.same("then(0, 2): MONTH 12 has the wind of 0", x.then(0, 2), 21);
        Due.same("then(0, 12): no other MONTH has one", x.then(0, 12), 21);
        Due.same("then(0, 13): MONTH 23 has the wind of 11", x.then(0, 13), 22);
        Due.same("then(0, 14): MONTH 24 has the wind of 0", x.then(0, 14), 28);
        FrozenIn y = Due.aloneInMonth(99, 0, 14, 0, 0);
        y.wind(3, 3, 1);
        y.month(1);
        Due.same("of(0, 1): MONTH 99 has the wind of 3", y.of(0, 1), 8);
        FrozenIn z = Due.aloneInMonth(998, 0, 14, 0, 0);
        z.wind(2, 2, 1);
        z.month(1);
        Due.same("of(0, 1): MONTH 998 has the wind of 2", z.of(0, 1), 13);
    }

    private static void strengthsAre0To3() {
        FrozenIn x = new FrozenIn();
        Due.bad(x, "wind(0, 0, -1)", () -> x.wind(0, 0, -1));
        Due.bad(x, "wind(0, 0, 4)", () -> x.wind(0, 0, 4));
        Due.same("wind(0, 0, 3)", x.wind(0, 0, 3), 1);
        Due.same("wind(0, 0, 0)", x.wind(0, 0, 0), 3);
        Due.same("wind(0, 0, 1)", x.wind(0, 0, 1), 0);
    }

    private static void windsAtFirst() {
        FrozenIn x = new FrozenIn();
        x.floe(0, 12, 0);
        for (int m = 0; m <= 6; m++) {
            Due.same("then(0, " + m + ") by the winds at first", x.then(0, m), 12 + Math.min(5, m));
        }
        for (int m = 0; m < 12; m++) {
            Due.same("wind(" + m + ", 3, 3)", x.wind(m, 3, 3), 1);
        }
    }

    private static void floesAre0To4AsTheyCome() {
        FrozenIn x = new FrozenIn();
        Due.bad(x, "of(0, 1) of none", () -> x.of(0, 1));
        for (int f = 0; f < 5; f++) {
            Due.same("floe(0, " + (30 - f) + ", 0)", x.floe(0, 30 - f, 0), f);
        }
        for (int f = 0; f < 5; f++) {
            Due.same("of(" + f + ", 1)", x.of(f, 1), 30 - f);
        }
        Due.bad(x, "of(-1, 1)", () -> x.of(-1, 1));
        Due.bad(x, "of(5, 1)", () -> x.of(5, 1));
        Due.full(x, "floe(0, 0, 0), the sixth", () -> x.floe(0, 0, 0));
    }

    private static void foodIs0To60() {
        FrozenIn x = new FrozenIn();
        Due.bad(x, "floe(0, 0, -1)", () -> x.floe(0, 0, -1));
        Due.bad(x, "floe(0, 0, 61)", () -> x.floe(0, 0, 61));
        x.floe(0, 0, 0);
        x.floe(0, 0, 60);
        Due.same("of(0, 2)", x.of(0, 2), 0);
        Due.same("of(1, 2)", x.of(1, 2), 60);
    }

    private static void monthsAre0To999() {
        FrozenIn x = new FrozenIn();
        Due.same("count(1) at first", x.count(1), 0);
        FrozenIn y = Due.inMonth(998);
        Due.same("count(1)", y.count(1), 998);
        y.month(1);
        Due.same("count(1) behind month(1)", y.count(1), 999);
        y.month(1);
        Due.same("count(1) behind one more", y.count(1), 999);
        FrozenIn z = Due.inMonth(998);
        z.month(60);
        Due.same("count(1) behind month(60)", z.count(1), 999);
        z.month(60);
        Due.same("count(1) behind 60 more", z.count(1), 999);
    }

    private static void outIsColumn5Alone() {
        FrozenIn x = Due.alone(0, 0, 0, 0);
        for (int cell = 0; cell < 36; cell++) {
            int due = cell == 5 || cell == 11 || cell == 17 || cell == 23 || cell == 29 || cell == 35 ? 1 : 0;
            x.moves(0, cell);
            Due.same("of(0, 3) in " + cell, x.of(0, 3), due);
            Due.same("count(2) in " + cell, x.count(2), due);
            Due.same("out(0) in " + cell, x.out(0), due == 1 ? 0 : -1);
        }
    }

    private static void poleIsCell14() {
        FrozenIn x = Due.alone(0, 14, 0, 0);
        Due.same("dogs(0, 0) from 14", x.dogs(0, 0), 1);
        for (int cell : new int[] {13, 15, 8, 20, 21, 7}) {
            x.moves(0, cell);
            Due.same("dogs(0, 0) from " + cell, x.dogs(0, 0), 2);
            Due.same("dogs(0, 1) from " + cell, x.dogs(0, 1), 1);
        }
        // 3 FAR from the pole, on each of its sides: any other pole would be 2 or 4 FAR from one of them.
        for (int cell : new int[] {32, 17, 3, 6}) {
            x.moves(0, cell);
            Due.same("dogs(0, 1) from " + cell, x.dogs(0, 1), 2);
        }
    }

    // ---- kinds

    /** For each STRENGTH s a row; for each column c from which a FLOE drifts to the next row, how many CELLS. */
    private static void cellsByColumns(int kind, String... due) {
        for (int s = 0; s < 4; s++) {
            for (int c = 0; c < 6; c++) {
                int cells = due[s].charAt(c) - '0';
                Due.same("then(0, 1) of KIND " + kind + " from " + (6 + c) + ", STRENGTH " + s,
                        Due.alone(kind, 6 + c, 1, s).then(0, 1), 6 + c + 6 * cells);
            }
        }
    }

    private static void plainFromStrength1On() {
        cellsByColumns(0, "000000", "111111", "111111", "111111");
    }

    private static void leadAtStrength3Alone() {
        cellsByColumns(1, "000000", "111111", "111111", "222222");
    }

    /** Where the FLOE is a MONTH later, from 14 by WAY 0, in each of these MONTHS. */
    private static void inMonths(int kind, int[] months, int... due) {
        for (int i = 0; i < months.length; i++) {
            Due.same("then(0, 1) of KIND " + kind + " in MONTH " + months[i],
                    Due.aloneInMonth(months[i], kind, 14, 0, 3).then(0, 1), due[i]);
        }
    }

    private static void ringInOddMonths() {
        inMonths(2, new int[] {0, 1, 2, 3, 11, 12, 98, 99, 998, 999}, 15, 20, 15, 20, 20, 15, 15, 20, 15, 20);
        cellsByColumns(2, "000000", "111111", "111111", "111111");
    }

    private static void shoalUpToColumn1AndStrength1() {
        cellsByColumns(3, "000000", "001111", "111111", "111111");
    }

    private static void backInEachThirdMonth() {
        inMonths(4, new int[] {0, 1, 2, 3, 4, 5, 6, 9, 12, 98, 99, 998, 999}, 13, 20, 15, 8, 15, 20, 13, 8, 13, 15, 8, 15, 8);
        int[] opposite = {13, 8, 15, 20};
        int[] oppositeOfTheRight = {8, 15, 20, 13};
        for (int way = 0; way < 4; way++) {
            Due.same("then(0, 1) of BACK in MONTH 0 by WAY " + way, Due.alone(4, 14, way, 1).then(0, 1), opposite[way]);
            Due.same("then(0, 1) of BACK in MONTH 3 by WAY " + way,
                    Due.aloneInMonth(3, 4, 14, way, 1).then(0, 1), oppositeOfTheRight[way]);
        }
        Due.same("then(0, 1) of BACK, calm", Due.alone(4, 14, 0, 0).then(0, 1), 14);
    }

    private static void splitFromColumn3On() {
        cellsByColumns(5, "000000", "111000", "111000", "222111");
    }

    /** A calm from column 3 on: 1 less than none is none. */
    private static void splitDoesNotGoBackwards() {
        for (int way = 0; way < 4; way++) {
            for (int cell : new int[] {15, 16, 21, 22}) {
                Due.same("then(0, 1) of SPLIT from " + cell + ", calm", Due.alone(5, cell, way, 0).then(0, 1), cell);
            }
        }
        FrozenIn x = Due.alone(5, 15, 0, 0);
        x.note(0, 0, 0, 0, 3, 0, 0);
        Due.same("is(0) by no CELLS in a calm", x.is(0), 63);
    }

    // ---- a month goes by

    private static void twoCellsEachWay() {
        int[] due = {16, 26, 12, 2};
        for (int way = 0; way < 4; way++) {
            FrozenIn x = Due.alone(1, 14, way, 3);
            x.month(1);
            Due.same("of(0, 1) by WAY " + way, x.of(0, 1), due[way]);
        }
    }

    private static void columnAheadOfTheMonthCounts() {
        Due.same("SPLIT from column 2 over 3", Due.alone(5, 8, 0, 3).then(0, 1), 10);
        Due.same("SPLIT from column 3 to 2", Due.alone(5, 9, 2, 3).then(0, 1), 8);
        Due.same("SPLIT from column 2 to 3", Due.alone(5, 8, 0, 1).then(0, 1), 9);
        Due.same("SHOAL from column 2 to 1", Due.alone(3, 8, 2, 1).then(0, 1), 7);
        Due.same("SHOAL from column 1 to none", Due.alone(3, 7, 0, 1).then(0, 1), 7);
        FrozenIn x = Due.alone(5, 6, 0, 3);
        x.month(3);
        Due.same("SPLIT from column 0, three MONTHS: 2, 2, 1", x.of(0, 1), 11);
    }

    private static void floesStayAtTheEdge() {
        int[] edge = {11, 31, 6, 1};
        int[] oneAhead = {10, 25, 7, 7};
        for (int way = 0; way < 4; way++) {
            for (int from : new int[] {edge[way], oneAhead[way]}) {
                FrozenIn x = Due.alone(1, from, way, 3);
                Due.same("then(0, 1) from " + from + " by WAY " + way, x.then(0, 1), edge[way]);
                Due.same("then(0, 60) from " + from + " by WAY " + way, x.then(0, 60), edge[way]);
                x.month(1);
                Due.same("of(0, 1) from " + from + " by WAY " + way, x.of(0, 1), edge[way]);
                x.month(60);
                Due.same("of(0, 1), 60 later", x.of(0, 1), edge[way]);
            }
        }
    }

    private static void foodIsNotBelow0() {
        FrozenIn x = new FrozenIn();
        int[] foods = {0, 1, 2, 59, 60};
        int[] behindOne = {0, 0, 1, 58, 59};
        int[] behind59 = {0, 0, 0, 0, 1};
        for (int food : foods) {
            x.floe(0, 0, food);
        }
        x.month(1);
        for (int f = 0; f < 5; f++) {
            Due.same("of(" + f + ", 2) behind a MONTH", x.of(f, 2), behindOne[f]);
        }
        x.month(58);
        for (int f = 0; f < 5; f++) {
            Due.same("of(" + f + ", 2) behind 59", x.of(f, 2), behind59[f]);
        }
        x.month(60);
        for (int f = 0; f < 5; f++) {
            Due.same("of(" + f + ", 2) behind 119", x.of(f, 2), 0);
        }
    }

    private static void monthIsOneMore() {
        FrozenIn x = new FrozenIn();
        for (int m = 1; m <= 13; m++) {
            x.month(1);
            Due.same("count(1)", x.count(1), m);
        }
        x.month(2);
        Due.same("count(1) behind two", x.count(1), 15);
        x.month(60);
        Due.same("count(1) behind 60", x.count(1), 75);
    }

    // ---- the text

    private static void goodText(String text, int items) {
        Due.same("read() of «" + text + "»", Due.read(new FrozenIn(), text), items);
    }

    private static void fault(String text, int place) {
        FrozenIn x = new FrozenIn();
        x.floe(4, 9, 17);
        long ahead = x.digest();
        Due.same("read() of «" + text + "»", Due.read(x, text), -10 - place);
        x.clear();
        Due.same("digest() behind the fault in «" + text + "»", x.digest(), ahead);
    }

    private static void textOf150Bytes() {
        FrozenIn x = new FrozenIn();
        Due.write(x, " ".repeat(143) + "sea 99");
        Due.same("read() of 149 bytes", x.read(), -10 - 149);
        Due.same("type(;), the 150th", x.type(';'), 150);
        Due.full(x, "type(;), the 151st", () -> x.type(';'));
        Due.same("read() of 150 bytes", x.read(), 1);
        Due.same("count(1)", x.count(1), 99);
        Due.same("count(6)", x.count(6), 150);
    }

    private static void lastItemIsEndedToo() {
        fault("sea 5", 5);
        goodText("sea 5;", 1);
        fault("sea 5;wind 1 2 3", 16);
        goodText("sea 5;wind 1 2 3;", 2);
        fault("sea 5;floe 1 2 3", 16);
        goodText("sea 5;floe 1 2 3;", 2);
        fault("sea 5;wind 1 2 3 floe 1 2 3;", 17);
        fault("sea 5 wind 1 2 3;", 6);
    }

    private static void seaMonthIs0To99() {
        FrozenIn x = new FrozenIn();
        x.sea(7);
        Due.same("read() of sea 0", Due.read(x, "sea 0;"), 1);
        Due.same("count(1)", x.count(1), 0);
        Due.same("read() of sea 99", Due.read(x, "sea 99;"), 1);
        Due.same("count(1)", x.count(1), 99);
        fault("sea 100;", 4);
        fault("sea -1;", 4);
    }

    private static void seaComesOnceAndFirst() {
        fault("sea 5;sea 5;", 6);
        fault("wind 0 0 0;sea 5;", 0);
        fault("floe 0 0 0;sea 5;", 0);
        fault("sea 5;wind 0 0 0;floe 0 0 0;sea 5;", 28);
        goodText("sea 5;wind 0 0 0;floe 0 0 0;", 3);
        goodText("sea 5;floe 0 0 0;wind 0 0 0;", 3);
    }

    private static void windItemsNumbers() {
        FrozenIn x = new FrozenIn();
        Due.same("read()", Due.read(x, "sea 5;wind 0 3 3;wind 11 2 0;"), 3);
        Due.same("the wind of 0", x.wind(0, 0, 0), 33);
        Due.same("the wind of 11", x.wind(11, 0, 0), 20);
        fault("sea 5;wind 12 0 0;", 11);
        fault("sea 5;wind 0 4 0;", 13);
        fault("sea 5;wind 0 0 4;", 15);
        fault("sea 5;wind 0 0;", 14);
        fault("sea 5;wind 0 0 0 0;", 17);
    }

    private static void floeItemsNumbers() {
        FrozenIn x = new FrozenIn();
        Due.same("read()", Due.read(x, "sea 5;floe 5 35 60;floe 0 0 0;"), 3);
        int[] most = {5, 35, 60};
        for (int what = 0; what < 3; what++) {
            Due.same("of(0, " + what + ")", x.of(0, what), most[what]);
            Due.same("of(1, " + what + ")", x.of(1, what), 0);
        }
        fault("sea 5;floe 6 0 0;", 11);
        fault("sea 5;floe 0 36 0;", 13);
        fault("sea 5;floe 0 0 61;", 15);
        fault("sea 5;floe 0 0;", 14);
        fault("sea 5;floe 0 0 0 0;", 17);
    }

    private static void lettersAreSmallAToZ() {
        fault("Sea 5;", 0);
        fault("seA 5;", 0);
        fault("sea 5;Wind 0 0 0;", 6);
        fault("sea 5;winD 0 0 0;", 6);
        fault("seaA 5;", 3);
        fault("seaz 5;", 0);
        fault("asea 5;", 0);
        fault("sea`5;", 3);
        fault("sea{5;", 3);
    }

    private static void oneOrTwoFigures() {
        FrozenIn x = new FrozenIn();
        String[] texts = {"sea 7;", "sea 07;", "sea 10;", "sea 00;", "sea 90;"};
        int[] months = {7, 7, 10, 0, 90};
        for (int i = 0; i < texts.length; i++) {
            Due.same("read() of «" + texts[i] + "»", Due.read(x, texts[i]), 1);
            Due.same("count(1) of «" + texts[i] + "»", x.count(1), months[i]);
        }
        fault("sea 1 2;", 6);
        fault("sea 007;", 4);
        fault("sea /;", 4);
        fault("sea :;", 4);
        fault("sea 5/;", 5);
    }

    private static void blanksAnywhere() {
        FrozenIn x = new FrozenIn();
        Due.same("read()", Due.read(x, "    sea    12   ;   wind   3    2  1   ;     floe   4   5    6    ;     "), 3);
        Due.same("count(1)", x.count(1), 12);
        Due.same("the wind of 3", x.wind(3, 0, 1), 21);
        Due.same("of(0, 0)", x.of(0, 0), 4);
        Due.same("of(0, 1)", x.of(0, 1), 5);
        Due.same("of(0, 2)", x.of(0, 2), 6);
    }

    private static void only32IsABlank() {
        int[] others = {0, 9, 10, 13, 31, 33, 127};
        for (int other : others) {
            fault((char) other + "sea 5;", 0);
            fault("sea" + (char) other + "5;", 3);
            fault("sea 5" + (char) other + ";", 5);
            fault("sea 5;" + (char) other, 6);
        }
        goodText(" sea 5 ; ", 1);
    }

    private static void blanksNeededBetweenTwoNumbers() {
        FrozenIn x = new FrozenIn();
        Due.same("read()", Due.read(x, "sea5;wind11 3 2;floe5 35 60;"), 3);
        Due.same("count(1)", x.count(1), 5);
        Due.same("the wind of 11", x.wind(11, 0, 1), 32);
        Due.same("of(0, 1)", x.of(0, 1), 35);
        fault("sea5;wind1132;", 9);
        fault("sea5;wind1 32;", 11);
        fault("sea5;wind1 3 2floe5 35 60;", 14);
        fault("seasea", 0);
        fault("sea5;windfloe", 5);
    }

    // ---- faults

    private static void faultIsTheFirst() {
        fault("sea 5;wind 12 4 4;ice", 11);
        fault("sea 5;wind 99 ice;sea", 11);
        fault("sea 5;ice 12 4 4;", 6);
        fault("ice;;;;", 0);
        fault("  sea 5;  wind 1 4;", 17);
        fault("sea ?100", 4);
        fault("sea 100?", 4);
    }

    private static void faultAtAWordThatIsNone() {
        for (String word : new String[] {"tea", "spa", "set", "seas", "se"}) {
            fault(word + " 5;", 0);
        }
        for (String word : new String[] {"find", "wand", "wild", "wine", "win", "winds", "aloe", "froe", "flee", "flow", "flo", "floes"}) {
            fault("sea 5;" + word + " 0 0 0;", 6);
        }
        fault("ice 5;", 0);
        fault("s", 0);
        fault("  se", 2);
        fault("sea 5;ice 1 2 3;", 6);
        fault("sea 5; winds 1 2 3;", 7);
        fault("sea 5;win", 6);
        fault("sea 5;wind ice", 11);
        fault("sea 5;wind 1 2 3 ice", 17);
    }

    private static void faultAtSeaAgain() {
        fault("sea 5;sea 6;", 6);
        fault("sea 5; sea", 7);
        fault("sea sea 5;", 4);
        fault("sea 5 sea", 6);
        fault("sea 5;wind sea", 11);
        fault("sea 5;wind 0 0 0;sea 6;", 17);
    }

    private static void faultAtAnythingAheadOfSea() {
        fault(";sea 5;", 0);
        fault("5 sea 5;", 0);
        fault("100 sea 5;", 0);
        fault(" wind 0 0 0;sea 5;", 1);
        fault("  floe 0 0 0;sea 5;", 2);
        fault("floe sea 5;", 0);
        fault(" -sea 5;", 1);
    }

    private static void faultAtTheSixthFloe() {
        String five = "sea 5;floe0 0 0;floe0 0 0;floe0 0 0;floe0 0 0;floe0 0 0;";
        goodText(five, 6);
        goodText(five + "wind0 0 0;", 7);
        fault(five + "floe0 0 0;", 56);
        fault(five + "   floe0 0 0;", 59);
        fault(five + "floe", 56);
        fault(five + "floe 6 36 61;", 56);
        fault(five + "wind0 0 0;floe0 0 0;", 66);
        FrozenIn x = new FrozenIn();
        for (int i = 0; i < 5; i++) {
            x.floe(0, 0, 0);
        }
        Due.same("read() of a floe behind five that were", Due.read(x, "sea 5;floe 1 1 1;"), 2);
        Due.same("count(0)", x.count(0), 1);
    }

    private static void faultAtThreeFigures() {
        fault("sea 100;", 4);
        fault("sea 000;", 4);
        fault("sea 005;", 4);
        fault("sea   0005;", 6);
        fault("sea 5;wind 000 0 0;", 11);
        fault("sea 5;floe 0 0 000;", 15);
        fault("sea 5;floe 0 0 4294967297;", 15);
        fault("sea 5;111", 6);
        fault("sea 5 111", 6);
        fault("sea 111", 4);
    }

    private static void faultAtANumberNotAsTold() {
        fault("sea 5;wind 12 0 0;", 11);
        fault("sea 5;wind 1 4 0;", 13);
        fault("sea 5;wind 1 0 4;", 15);
        fault("sea 5;floe 6 0 0;", 11);
        fault("sea 5;floe 0 36 0;", 13);
        fault("sea 5;floe 0 35 61;", 16);
        fault("sea 5;floe 0 35 61", 16);
        fault("sea 5;floe 0 35   99", 18);
        fault("sea 5 5;", 6);
        fault("sea 5;5;", 6);
    }

    private static void faultAtAByteThatBeginsNone() {
        for (int c = 0; c < 128; c++) {
            boolean begins = c == ' ' || c == ';' || c >= '0' && c <= '9' || c >= 'a' && c <= 'z';
            if (!begins) {
                fault("sea 5;" + (char) c, 6);
                fault("sea 5" + (char) c + ";", 5);
            }
        }
        fault("sea 5;wind 1-2 3;", 12);
        fault("sea 5;wind 1,2,3;", 12);
    }

    private static void faultAtTheLength() {
        String[] early = {"sea", "sea ", "sea 5", "sea 55", "sea 5 ", "sea 5;wind", "sea 5;wind 1", "sea 5;wind 1 2",
            "sea 5;wind 1 2 3", "sea 5;wind 1 2 3  ", "sea 5;floe", "sea 5;floe 1 ", "sea 5;floe 1 2", "sea 5;floe 1 2 3"};
        for (String text : early) {
            fault(text, text.length());
        }
        fault(" ".repeat(147) + "sea", 150);
        fault(" ".repeat(145) + "sea 5", 150);
        fault(" ".repeat(139) + "sea 5;wind ", 150);
        // What a longer text had behind its end is not there any more.
        FrozenIn x = new FrozenIn();
        Due.same("read()", Due.read(x, "sea 12;wind 1 2 3;"), 2);
        Due.same("read() of «sea 12»", Due.read(x, "sea 12"), -16);
        Due.same("read() of «sea 1»", Due.read(x, "sea 1"), -15);
        Due.same("read() of «sea »", Due.read(x, "sea "), -14);
        Due.same("read() of «se»", Due.read(x, "se"), -10);
    }

    private static void faultOfAnEmptyText() {
        FrozenIn x = new FrozenIn();
        Due.same("read() of an empty one", x.read(), -10);
        Due.write(x, "sea 5;");
        x.clear();
        Due.same("read() of one that was cleared", x.read(), -10);
        fault("", 0);
        fault(" ", 1);
        fault(" ".repeat(150), 150);
    }

    // ---- what a sea that is read replaces

    private static FrozenIn fullOfAll() {
        FrozenIn x = new FrozenIn();
        x.sea(9);
        x.wind(7, 1, 2);
        x.floe(0, 4, 1);
        x.floe(1, 35, 1);
        x.found(0, 1, 1);
        x.note(0, 0, 0, 0, 0, 0, 0);
        x.calms(0, 1, 5);
        x.image(0);
        x.feed(0, 3);
        x.month(2);
        x.sea(100);
        x.from(1);
        return x;
    }

    private static void readReplacesTheSea() {
        FrozenIn x = fullOfAll();
        Due.same("read()", Due.read(x, "sea 3;floe 2 8 9;wind 1 2 3;"), 3);
        Due.same("count(0)", x.count(0), 1);
        Due.same("count(1)", x.count(1), 3);
        Due.same("count(2)", x.count(2), 0);
        Due.same("of(0, 0)", x.of(0, 0), 2);
        Due.same("of(0, 1)", x.of(0, 1), 8);
        Due.same("of(0, 2)", x.of(0, 2), 9);
        Due.same("the wind of 7, as at first", x.wind(7, 0, 1), 1);
        Due.same("the wind of 1, as read", x.wind(1, 0, 1), 23);
        Due.same("of(1, 0)", x.of(1, 0), BAD);
    }

    private static void readLeavesTheRest() {
        FrozenIn x = fullOfAll();
        Due.read(x, "sea 3;floe 2 8 9;");
        Due.same("count(6)", x.count(6), 17);
        Due.same("part(0)", x.part(0), 1);
        Due.same("part(1)", x.part(1), 2);
        Due.same("status(0)", x.status(0), 1);
        Due.same("status(1)", x.status(1), 1);
        Due.same("status(2)", x.status(2), 0);
        x.sea(0);
        Due.same("read() of the same text", x.read(), 2);
        Due.same("of(0, 1)", x.of(0, 1), 8);
        Due.same("from(0)", x.from(0), 1);
        Due.same("count(0)", x.count(0), 2);
        Due.same("count(1)", x.count(1), 9);
        Due.same("from(1)", x.from(1), FrozenIn.NO);
    }

    private static void readLeavesNoNotesFoundOrUndo() {
        FrozenIn x = fullOfAll();
        Due.read(x, "sea 3;floe 2 8 9;");
        Due.same("count(3)", x.count(3), 0);
        Due.same("count(4)", x.count(4), 0);
        Due.same("count(5)", x.count(5), 0);
        Due.same("whence(0)", x.whence(0), 36);
        Due.same("is(0)", x.is(0), 63);
        Due.refused(x, "undo()", x::undo, FrozenIn.NO, 1);
        Due.same("of(0, 1)", x.of(0, 1), 8);
    }
}
