/** Promises 26 to 33: each sentence that names an edge, with its own test. */
public final class Promise26To33EdgeTest {
    private static final int NO = FrozenIn.NO;

    private Promise26To33EdgeTest() {
    }

    public static void main(String[] args) {
        Edges edges = new Edges();
        tell(edges);
        edges.run();
    }

    static void tell(Edges edges) {
        edges.in(Document.promise(26));
        edges.sentence("CALMS are THE FRACTION: 1.", Promise26To33EdgeTest::promise26SureAndNever);
        edges.sentence("BAD.", Promise26To33EdgeTest::promise26Bad);
        edges.in(Document.promise(27));
        edges.sentence("YEARS. BAD.", Promise26To33EdgeTest::promise27Bad);
        edges.in(Document.promise(28));
        edges.sentence("THE FRACTION: above (0), below (1).", Promise26To33EdgeTest::promise28AboveAndBelow);
        edges.sentence("BAD.", Promise26To33EdgeTest::promise28Bad);
        edges.in(Document.promise(29));
        edges.sentence("An IMAGE is kept: 1.", Promise26To33EdgeTest::promise29KeptAnew);
        edges.sentence("BAD.", Promise26To33EdgeTest::promise29Bad);
        edges.in(Document.promise(30));
        edges.sentence("It goes on from an IMAGE: 1.", Promise26To33EdgeTest::promise30FromNoneAndAll);
        edges.sentence("BAD;", Promise26To33EdgeTest::promise30Bad);
        edges.sentence("NO: none was kept.", Promise26To33EdgeTest::promise30No);
        edges.in(Document.promise(31));
        edges.sentence("STATUS: BAD (0), NO (1), FULL (2).", Promise26To33EdgeTest::promise31EachCount);
        edges.sentence("-1: another what (counts as BAD).", Promise26To33EdgeTest::promise31AnotherWhat);
        edges.in(Document.promise(32));
        edges.sentence("How many: 0 FLOES, 1 the MONTH, 2 OUT, 3 FOUND, 4 NOTES, 5 that may be undone, 6 bytes of THE TEXT.",
                Promise26To33EdgeTest::promise32LeastAndMost);
        edges.sentence("BAD.", Promise26To33EdgeTest::promise32Bad);
        edges.in(Document.promise(33));
        edges.sentence("h = 1427; then h = 31 h + v for each v: count(0) to count(6);", Promise26To33EdgeTest::promise33OfANewOne);
        edges.sentence("of 12 WINDS WAY, STRENGTH; of FLOES KIND, CELL, FOOD; of FOUND KIND, m, CELL; of NOTES f, m, w, s, c, y, n;"
                + " THE FRACTION.", Promise26To33EdgeTest::promise33OfAllThereCanBe);
        edges.sentence("THE FRACTION.", Promise26To33EdgeTest::promise33LeavesOutTheRest);
    }

    // ---- chances

    private static void promise26SureAndNever() {
        FrozenIn x = Due.alone(0, 4, 0, 1);
        Due.same("calms(0, 8, 0)", x.calms(0, 8, 0), 1);
        Due.same("part(0) of the sure", x.part(0), 1);
        Due.same("part(1) of the sure", x.part(1), 1);
        Due.same("calms(0, 8, 10)", x.calms(0, 8, 10), 1);
        Due.same("part(0) of what never is", x.part(0), 0);
        Due.same("part(1) of what never is", x.part(1), 1);
        Due.same("calms(0, 0, 5)", x.calms(0, 0, 5), 1);
        Due.same("part(0) behind no MONTH", x.part(0), 0);
        x.moves(0, 5);
        Due.same("calms(0, 0, 5) from column 5", x.calms(0, 0, 5), 1);
        Due.same("part(0) behind no MONTH, from column 5", x.part(0), 1);
    }

    private static void promise26Bad() {
        FrozenIn x = new FrozenIn();
        Due.bad(x, "calms(0, 1, 1) of none", () -> x.calms(0, 1, 1));
        x.floe(0, 5, 0);
        for (int f : Due.outside(0, 0)) {
            Due.bad(x, "calms(" + f + ", 1, 1)", () -> x.calms(f, 1, 1));
        }
        for (int m : Due.outside(0, 8)) {
            Due.bad(x, "calms(0, " + m + ", 1)", () -> x.calms(0, m, 1));
        }
        for (int c : Due.outside(0, 10)) {
            Due.bad(x, "calms(0, 1, " + c + ")", () -> x.calms(0, 1, c));
        }
        Due.same("part(0): the fraction stays", x.part(0), 0);
        Due.same("part(1): the fraction stays", x.part(1), 1);
    }

    private static void promise27Bad() {
        FrozenIn x = new FrozenIn();
        x.floe(0, 5, 0);
        for (int seed : Due.outside(0, 999999)) {
            Due.bad(x, "years(" + seed + ", 1)", () -> x.years(seed, 1));
        }
        for (int n : Due.outside(0, 60)) {
            Due.bad(x, "years(0, " + n + ")", () -> x.years(0, n));
        }
        Due.same("years(0, 0)", x.years(0, 0), 1);
        Due.same("years(999999, 0)", x.years(999999, 0), 1);
        // All from any column are in column 0 behind 60 by SEED 0, from column 5 in 4 by 999999.
        Due.same("years(0, 60)", x.years(0, 60), 0);
        Due.same("years(999999, 60)", x.years(999999, 60), 1);
    }

    private static void promise28AboveAndBelow() {
        FrozenIn x = Due.alone(0, 4, 0, 1);
        Due.same("part(0) at first", x.part(0), 0);
        Due.same("part(1) at first", x.part(1), 1);
        x.calms(0, 8, 9);
        Due.same("part(0) of calms(0, 8, 9)", x.part(0), 56953279L);
        Due.same("part(1) of calms(0, 8, 9)", x.part(1), 100000000L);
        x.sea(0);
        Due.same("part(1) behind a sea begun anew", x.part(1), 100000000L);
    }

    private static void promise28Bad() {
        FrozenIn x = new FrozenIn();
        for (int what : Due.outside(0, 1)) {
            Due.bad(x, "part(" + what + ")", () -> x.part(what));
        }
    }

    // ---- images

    private static void promise29KeptAnew() {
        FrozenIn x = new FrozenIn();
        Due.same("image(0) of an empty sea", x.image(0), 1);
        Due.same("image(1) of an empty sea", x.image(1), 1);
        x.floe(0, 7, 7);
        Due.same("image(1), again", x.image(1), 1);
        x.moves(0, 8);
        Due.same("from(1)", x.from(1), 1);
        Due.same("of(0, 1): the later one", x.of(0, 1), 7);
        Due.same("from(0)", x.from(0), 1);
        Due.same("count(0): the other one", x.count(0), 0);
    }

    private static void promise29Bad() {
        FrozenIn x = new FrozenIn();
        for (int i : Due.outside(0, 1)) {
            Due.bad(x, "image(" + i + ")", () -> x.image(i));
        }
        Due.refused(x, "from(0): none was kept", () -> x.from(0), NO, 1);
        Due.refused(x, "from(1): none was kept", () -> x.from(1), NO, 1);
    }

    private static void promise30FromNoneAndAll() {
        FrozenIn x = new FrozenIn();
        long none = x.digest();
        x.image(0);
        for (int f = 0; f < 5; f++) {
            x.floe(5, 35, 60);
        }
        for (int i = 0; i < 6; i++) {
            x.found(5, 60, 35);
            x.note(4, 99, 3, 3, 5, 3, 3);
        }
        for (int i = 0; i < 8; i++) {
            x.feed(0, 4);
        }
        long all = x.digest();
        x.image(1);
        Due.same("from(0)", x.from(0), 1);
        Due.bad(x, "of(0, 0) of the empty sea", () -> x.of(0, 0));
        Due.same("from(0), again", x.from(0), 1);
        Due.refused(x, "undo() of the empty sea", x::undo, NO, 1);
        x.floe(0, 0, 0);
        x.from(0);
        x.clear();
        Due.same("digest() of the empty sea", x.digest(), none);
        // Whatever is told now is not in the full sea that was kept.
        for (int f = 0; f < 5; f++) {
            x.floe(0, f, 0);
        }
        for (int i = 0; i < 6; i++) {
            x.found(0, 1, i);
            x.note(0, i, 0, 0, 0, 0, 0);
        }
        for (int i = 0; i < 8; i++) {
            x.moves(i % 5, 30);
        }
        Due.same("from(1)", x.from(1), 1);
        Due.same("digest() of the full sea", x.digest(), all);
        for (int i = 7; i >= 0; i--) {
            Due.same("undo() of the full sea", x.undo(), 0);
            Due.same("of(0, 2) of the full sea", x.of(0, 2), 60 + 4 * i);
        }
    }

    private static void promise30Bad() {
        FrozenIn x = new FrozenIn();
        for (int i : Due.outside(0, 1)) {
            Due.bad(x, "from(" + i + ") with none kept", () -> x.from(i));
        }
        x.image(0);
        x.image(1);
        x.month(1);
        for (int i : Due.outside(0, 1)) {
            Due.bad(x, "from(" + i + ") with two kept", () -> x.from(i));
        }
        Due.same("count(1): nothing was taken", x.count(1), 1);
    }

    private static void promise30No() {
        for (int kept = 0; kept < 2; kept++) {
            FrozenIn x = new FrozenIn();
            int other = 1 - kept;
            x.floe(0, 0, 0);
            Due.refused(x, "from(0)", () -> x.from(0), NO, 1);
            Due.refused(x, "from(1)", () -> x.from(1), NO, 1);
            x.image(kept);
            Due.refused(x, "from(" + other + ") with the other kept", () -> x.from(other), NO, 1);
            Due.same("from(" + kept + ")", x.from(kept), 1);
        }
    }

    // ---- status, counts, digest

    private static void promise31EachCount() {
        FrozenIn x = new FrozenIn();
        for (int i = 1; i <= 3; i++) {
            x.sea(-1);
            Due.same("status(0)", x.status(0), i);
            Due.same("status(1)", x.status(1), i - 1);
            x.undo();
            Due.same("status(1)", x.status(1), i);
            Due.same("status(2)", x.status(2), 0);
        }
        Due.write(x, " ".repeat(150));
        for (int i = 1; i <= 3; i++) {
            x.type(32);
            Due.same("status(2)", x.status(2), i);
        }
        Due.same("status(0), still", x.status(0), 3);
        Due.same("status(1), still", x.status(1), 3);
        x.sea(0);
        Due.same("status(0) behind a sea begun anew", x.status(0), 3);
    }

    private static void promise31AnotherWhat() {
        FrozenIn x = new FrozenIn();
        int bad = 0;
        for (int what : Due.outside(0, 2)) {
            Due.refused(x, "status(" + what + ")", () -> x.status(what), -1, 0);
            bad++;
        }
        Due.same("status(0)", x.status(0), bad);
    }

    private static void promise32LeastAndMost() {
        FrozenIn x = new FrozenIn();
        for (int what = 0; what <= 6; what++) {
            Due.same("count(" + what + ") of a new one", x.count(what), 0);
        }
        FrozenIn y = Due.inMonth(999);
        for (int i = 0; i < 7; i++) {
            y.floe(5, 35, 60);
            y.found(5, 60, 35);
            y.note(0, 99, 3, 3, 5, 3, 3);
        }
        for (int i = 0; i < 9; i++) {
            y.month(60);
        }
        Due.write(y, " ".repeat(151));
        int[] most = {5, 999, 5, 4, 6, 8, 150};
        for (int what = 0; what <= 6; what++) {
            Due.same("count(" + what + ") of all there can be", y.count(what), most[what]);
        }
        y.moves(0, 34);
        Due.same("count(2), one less", y.count(2), 4);
    }

    private static void promise32Bad() {
        FrozenIn x = new FrozenIn();
        for (int what : Due.outside(0, 6)) {
            Due.bad(x, "count(" + what + ")", () -> x.count(what));
        }
    }

    /** By the document's h, from its values one behind another, over and over the size of a long. */
    private static long digestOf(int... values) {
        long h = 1427;
        for (int value : values) {
            h = 31 * h + value;
        }
        return h;
    }

    private static void promise33OfANewOne() {
        int[] values = new int[7 + 24 + 2];
        for (int m = 0; m < 12; m++) {
            values[7 + 2 * m + 1] = 1;
        }
        values[32] = 1;
        Due.same("digest() of a new one", new FrozenIn().digest(), digestOf(values));
        FrozenIn x = new FrozenIn();
        x.month(7);
        Due.write(x, "sea");
        values[1] = 7;
        values[5] = 1;
        values[6] = 3;
        Due.same("digest() of no floes in MONTH 7", x.digest(), digestOf(values));
    }

    private static void promise33OfAllThereCanBe() {
        FrozenIn x = new FrozenIn();
        int[] values = new int[7 + 24 + 15 + 12 + 42 + 2];
        int at = 7;
        for (int m = 0; m < 12; m++) {
            x.wind(m, m % 4, 3 - m % 4);
            values[at++] = m % 4;
            values[at++] = 3 - m % 4;
        }
        for (int f = 0; f < 5; f++) {
            x.floe(f, 5 + 7 * f, 60 - f);
            values[at++] = f;
            values[at++] = 5 + 7 * f;
            values[at++] = 60 - f;
        }
        for (int i = 0; i < 4; i++) {
            x.found(5 - i, 60 - i, 35 - i);
            values[at++] = 5 - i;
            values[at++] = 60 - i;
            values[at++] = 35 - i;
        }
        for (int i = 0; i < 6; i++) {
            int[] note = {i % 5, 99 - i, i % 4, 3 - i % 4, i, (i + 1) % 4, (i + 2) % 4};
            x.note(note[0], note[1], note[2], note[3], note[4], note[5], note[6]);
            for (int value : note) {
                values[at++] = value;
            }
        }
        for (int i = 0; i < 8; i++) {
            x.moves(4, 33);
        }
        values[7 + 24 + 13] = 33;
        x.moves(0, 5);
        x.calms(0, 0, 0);
        values[at++] = 1;
        values[at] = 1;
        int[] counts = {5, 0, 1, 4, 6, 8, 0};
        System.arraycopy(counts, 0, values, 0, 7);
        Due.same("digest() of all there can be", x.digest(), digestOf(values));
    }

    private static void promise33LeavesOutTheRest() {
        FrozenIn x = new FrozenIn();
        x.floe(0, 0, 0);
        x.moves(0, 3);
        long ahead = x.digest();
        x.status(9);
        x.undo();
        x.moves(0, 3);
        x.image(0);
        x.type(200);
        x.from(1);
        Due.same("digest(): without STATUS, IMAGES, what may be undone", x.digest(), ahead);
        Due.write(x, "a");
        long oneByte = x.digest();
        Due.holds("digest(): with how many bytes THE TEXT has", oneByte != ahead);
        x.clear();
        Due.write(x, "b");
        Due.same("digest(): without the bytes", x.digest(), oneByte);
        x.forget(0);
        Due.same("digest(), again", x.digest(), oneByte);
    }
}
