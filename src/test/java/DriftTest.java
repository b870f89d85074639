/** Promises 13 to 18: where floes drift. */
public final class DriftTest {
    private DriftTest() {
    }

    public static void main(String[] args) {
        plainDrifts();
        leadDrifts();
        ringDrifts();
        shoalDrifts();
        backDrifts();
        splitDrifts();
        allStayAtTheEdges();
        thenBeyond999();
        thenRefused();
        outFirst();
        outAtSixty();
        needed();
        entered();
        enterRefused();
        nearestOnes();
        nearestByMonths();
        nearestRefused();
        dogsAndBack();
        dogsRefused();
        nothingIsChanged();
        Due.end();
    }

    /** The CELLS behind 0, 1, 2 .. MONTHS of the one floe. */
    private static void path(FrozenIn x, String whose, int... cells) {
        for (int m = 0; m < cells.length; m++) {
            Due.same(13, "then(0, " + m + ") of " + whose, x.then(0, m), cells[m]);
        }
    }

    private static void plainDrifts() {
        path(Due.alone(0, 0, 0, 1), "PLAIN", 0, 1, 2, 3, 4, 5, 5);
        path(Due.alone(0, 0, 0, 3), "PLAIN, 3", 0, 1, 2, 3, 4, 5, 5);
        path(Due.alone(0, 0, 1, 2), "PLAIN, next rows", 0, 6, 12, 18, 24, 30, 30);
        path(Due.alone(0, 35, 2, 1), "PLAIN, columns ahead", 35, 34, 33, 32, 31, 30, 30);
        path(Due.alone(0, 35, 3, 1), "PLAIN, rows ahead", 35, 29, 23, 17, 11, 5, 5);
        path(Due.alone(0, 14, 0, 0), "PLAIN, calm", 14, 14, 14);
        FrozenIn x = Due.alone(0, 0, 0, 0);
        x.wind(1, 1, 1);
        x.wind(3, 0, 2);
        path(x, "PLAIN, by months", 0, 0, 6, 6, 7, 7);
        Due.same(13, "then(0, 60)", x.then(0, 60), 35);
        Due.same(13, "then(0, 14): a year and two months", x.then(0, 14), 13);
    }

    private static void leadDrifts() {
        path(Due.alone(1, 0, 0, 3), "LEAD, 3", 0, 2, 4, 5, 5);
        path(Due.alone(1, 0, 0, 2), "LEAD, 2", 0, 1, 2, 3, 4, 5, 5);
        path(Due.alone(1, 0, 0, 1), "LEAD, 1", 0, 1, 2);
        path(Due.alone(1, 7, 0, 0), "LEAD, calm", 7, 7, 7);
    }

    private static void ringDrifts() {
        path(Due.alone(2, 0, 0, 1), "RING", 0, 1, 7, 8, 14, 15);
        path(Due.alone(2, 35, 3, 3), "RING, rows ahead", 35, 29, 29, 23, 23);
        path(Due.alone(2, 18, 3, 3), "RING, rows ahead, then next column", 18, 12, 13, 7, 8);
        path(Due.alone(2, 7, 1, 0), "RING, calm", 7, 7, 7);
    }

    private static void shoalDrifts() {
        path(Due.alone(3, 0, 0, 1), "SHOAL, column 0", 0, 0, 0);
        path(Due.alone(3, 1, 0, 1), "SHOAL, column 1", 1, 1, 1);
        path(Due.alone(3, 2, 0, 1), "SHOAL, column 2", 2, 3, 4, 5, 5);
        path(Due.alone(3, 0, 0, 2), "SHOAL, 2", 0, 1, 2, 3);
        path(Due.alone(3, 0, 0, 3), "SHOAL, 3", 0, 1, 2, 3);
        path(Due.alone(3, 3, 2, 1), "SHOAL, columns ahead", 3, 2, 1, 1);
    }

    private static void backDrifts() {
        path(Due.alone(4, 3, 0, 1), "BACK", 3, 2, 8, 9, 3, 4, 10, 9);
        path(Due.alone(4, 0, 1, 3), "BACK, next rows", 0, 0, 0, 6, 7, 13, 12);
    }

    private static void splitDrifts() {
        path(Due.alone(5, 0, 0, 3), "SPLIT, 3", 0, 2, 4, 5);
        path(Due.alone(5, 0, 0, 1), "SPLIT, 1", 0, 1, 2, 3, 3);
        path(Due.alone(5, 3, 0, 0), "SPLIT, calm", 3, 3);
        path(Due.alone(5, 3, 0, 3), "SPLIT, 3, column 3", 3, 4, 5);
        path(Due.alone(5, 2, 0, 2), "SPLIT, 2", 2, 3, 3);
    }

    private static void allStayAtTheEdges() {
        int[] corners = {5, 30, 0, 0};
        int[] nearCorners = {4, 24, 1, 6};
        for (int way = 0; way < 4; way++) {
            Due.same(13, "then(0, 1), at the edge, WAY " + way, Due.alone(1, corners[way], way, 3).then(0, 1), corners[way]);
            Due.same(13, "then(0, 1), near the edge, WAY " + way, Due.alone(1, nearCorners[way], way, 3).then(0, 1), corners[way]);
        }
    }

    private static void thenBeyond999() {
        FrozenIn x = new FrozenIn();
        x.sea(99);
        for (int i = 0; i < 15; i++) {
            x.month(60);
        }
        x.floe(2, 0, 0);
        Due.same(13, "count(1)", x.count(1), 999);
        path(x, "RING from 999 on", 0, 6, 7, 13, 14, 20);
    }

    private static void thenRefused() {
        FrozenIn x = Due.alone(0, 0, 0, 1);
        for (int f : Due.outside(0, 0)) {
            Due.same(13, "then(" + f + ", 0)", x.then(f, 0), FrozenIn.BAD);
            Due.same(14, "out(" + f + ")", x.out(f), FrozenIn.BAD);
            Due.same(15, "need(" + f + ")", x.need(f), FrozenIn.BAD);
        }
        for (int m : Due.outside(0, 60)) {
            Due.same(13, "then(0, " + m + ")", x.then(0, m), FrozenIn.BAD);
        }
        Due.same(13, "then(0, 60)", x.then(0, 60), 5);
        Due.same(13, "status(0)", x.status(0), 16);
    }

    private static void outFirst() {
        Due.same(14, "out(0) in column 5", Due.alone(0, 35, 0, 1).out(0), 0);
        Due.same(14, "out(0) in column 4", Due.alone(0, 4, 0, 1).out(0), 1);
        Due.same(14, "out(0) in column 0", Due.alone(0, 0, 0, 1).out(0), 5);
        Due.same(14, "out(0), calm", Due.alone(0, 4, 0, 0).out(0), FrozenIn.NONE);
        Due.same(14, "out(0), back", Due.alone(0, 4, 2, 1).out(0), FrozenIn.NONE);
        FrozenIn x = Due.alone(0, 3, 2, 1);
        x.wind(0, 0, 1);
        x.wind(1, 0, 1);
        Due.same(14, "out(0): out once, and back", x.out(0), 2);
        x.month(3);
        Due.same(14, "out(0) from MONTH 3 on", x.out(0), FrozenIn.NONE);
    }

    private static void outAtSixty() {
        FrozenIn x = Due.alone(0, 0, 0, 0);
        x.wind(11, 0, 1);
        Due.same(14, "out(0): once a year", x.out(0), 60);
        Due.same(15, "need(0)", x.need(0), 60);
        Due.same(16, "enter(0, 59)", x.enter(0, 59), 0);
        Due.same(16, "enter(0, 60)", x.enter(0, 60), 63);
        x.month(1);
        Due.same(14, "out(0), a month nearer", x.out(0), 59);
        FrozenIn y = new FrozenIn();
        Due.windAlways(y, 0, 0);
        y.wind(11, 1, 1);
        y.floe(4, 4, 0);
        y.wind(0, 0, 0);
        // Month 11 is odd and leaves 2 by 3: BACK goes the right of its wind, 2: column ahead.
        Due.same(14, "out(0) of BACK", y.out(0), FrozenIn.NONE);
        y.wind(11, 3, 1);
        Due.same(14, "out(0) of BACK", y.out(0), 12);
    }

    private static void needed() {
        FrozenIn x = new FrozenIn();
        x.floe(0, 0, 0);
        x.floe(0, 0, 3);
        x.floe(0, 0, 5);
        x.floe(0, 0, 6);
        x.floe(0, 5, 0);
        int[] due = {5, 2, 0, 0, 0};
        for (int f = 0; f < 5; f++) {
            Due.same(15, "need(" + f + ")", x.need(f), due[f]);
        }
        x.feed(1, 2);
        Due.same(15, "need(1), fed", x.need(1), 0);
        x.month(2);
        Due.same(15, "need(1), two months nearer", x.need(1), 0);
        Due.same(15, "need(0), two months nearer", x.need(0), 3);
        Due.same(15, "need(0), calm", Due.alone(0, 0, 0, 0).need(0), FrozenIn.NONE);
    }

    private static void entered() {
        FrozenIn x = new FrozenIn();
        Due.same(16, "enter(0, 4)", x.enter(0, 4), 0);
        Due.same(16, "enter(0, 5)", x.enter(0, 5), 63);
        Due.same(16, "enter(0, 0)", x.enter(0, 0), 0);
        Due.same(16, "enter(3, 60)", x.enter(3, 60), 0);
        Due.same(16, "enter(5, 60)", x.enter(5, 60), 0);
        Due.windAlways(x, 0, 3);
        Due.same(16, "enter(1, 2)", x.enter(1, 2), 0);
        Due.same(16, "enter(1, 3)", x.enter(1, 3), 63);
        for (int m = 5; m < 12; m++) {
            x.wind(m, 2, 1);
        }
        Due.same(16, "enter(0, 5)", x.enter(0, 5), 63);
        Due.same(16, "enter(0, 10): sooner", x.enter(0, 10), 63);
        x.month(1);
        Due.same(16, "enter(0, 5) a month later", x.enter(0, 5), 0);
    }

    private static void enterRefused() {
        FrozenIn x = new FrozenIn();
        for (int kind : Due.outside(0, 5)) {
            Due.same(16, "enter(" + kind + ", 5)", x.enter(kind, 5), FrozenIn.BAD);
        }
        for (int n : Due.outside(0, 60)) {
            Due.same(16, "enter(0, " + n + ")", x.enter(0, n), FrozenIn.BAD);
        }
        Due.same(16, "status(0)", x.status(0), 8);
    }

    private static void nearestOnes() {
        FrozenIn x = new FrozenIn();
        x.floe(0, 0, 0);
        x.floe(0, 35, 0);
        x.floe(3, 1, 0);
        Due.same(17, "nearest(0, 1, 0)", x.nearest(0, 1, 0), 5);
        Due.same(17, "nearest(0, 1, 1)", x.nearest(0, 1, 1), 5);
        Due.same(17, "nearest(1, 0, 0)", x.nearest(1, 0, 0), 5);
        Due.same(17, "nearest(0, 2, 0)", x.nearest(0, 2, 0), 1);
        Due.same(17, "nearest(2, 0, 1)", x.nearest(2, 0, 1), 0);
        x.moves(0, 35);
        Due.same(17, "nearest(0, 1, 0): alike always", x.nearest(0, 1, 0), 0);
        Due.same(17, "nearest(0, 1, 1)", x.nearest(0, 1, 1), 0);
        Due.windAlways(x, 0, 0);
        x.wind(11, 2, 2);
        x.moves(2, 4);
        x.moves(0, 29);
        // Both go a column ahead once a year; only behind the last month is one held by its edge.
        Due.same(17, "nearest(0, 2, 0)", x.nearest(0, 2, 0), 60);
        Due.same(17, "nearest(0, 2, 1)", x.nearest(0, 2, 1), 4);
    }

    /** Each drifts by the wind of the MONTH that it is. */
    private static void nearestByMonths() {
        FrozenIn x = new FrozenIn();
        Due.windAlways(x, 0, 0);
        x.wind(0, 0, 1);
        x.floe(3, 1, 0);
        x.floe(0, 0, 0);
        Due.same(17, "nearest(0, 1, 0)", x.nearest(0, 1, 0), 1);
        Due.same(17, "nearest(1, 0, 0)", x.nearest(1, 0, 0), 1);
        Due.same(17, "nearest(0, 1, 1)", x.nearest(0, 1, 1), 0);
        x.month(3);
        x.moves(1, 0);
        Due.same(17, "nearest(0, 1, 0) from MONTH 3 on", x.nearest(0, 1, 0), 10);
        Due.same(17, "nearest(1, 0, 0) from MONTH 3 on", x.nearest(1, 0, 0), 10);
    }

    private static void nearestRefused() {
        FrozenIn x = Due.alone(0, 0, 0, 1);
        x.floe(0, 1, 0);
        for (int f : Due.outside(0, 1)) {
            Due.same(17, "nearest(" + f + ", 0, 0)", x.nearest(f, 0, 0), FrozenIn.BAD);
            Due.same(17, "nearest(0, " + f + ", 0)", x.nearest(0, f, 0), FrozenIn.BAD);
            Due.same(17, "nearest(0, 1, " + f + ")", x.nearest(0, 1, f), FrozenIn.BAD);
        }
        Due.same(17, "nearest(1, 1, 0)", x.nearest(1, 1, 0), FrozenIn.BAD);
        Due.same(17, "status(0)", x.status(0), 13);
    }

    private static void dogs(FrozenIn x, int months, int toPole) {
        Due.same(18, "dogs(0, 0) from " + x.of(0, 1), x.dogs(0, 0), months);
        Due.same(18, "dogs(0, 1) from " + x.of(0, 1), x.dogs(0, 1), toPole);
    }

    private static void dogsAndBack() {
        dogs(Due.alone(0, 14, 0, 0), 1, 1);
        dogs(Due.alone(0, 13, 0, 0), 2, 1);
        dogs(Due.alone(0, 12, 0, 0), 2, 1);
        dogs(Due.alone(0, 11, 0, 0), 4, 2);
        dogs(Due.alone(0, 0, 0, 0), 4, 2);
        dogs(Due.alone(0, 35, 0, 0), 6, 3);
        dogs(Due.alone(0, 34, 0, 0), 6, 3);
        dogs(Due.alone(0, 13, 0, 1), 1, 1);
        dogs(Due.alone(0, 14, 0, 1), 2, 1);
        dogs(Due.alone(1, 14, 0, 3), 3, 1);
        dogs(Due.alone(1, 35, 2, 3), 6, 3);
        dogs(Due.alone(1, 35, 3, 3), 6, 3);
        dogs(Due.alone(1, 17, 2, 3), 3, 2);
        dogs(Due.alone(1, 12, 0, 3), 1, 1);
        FrozenIn x = Due.alone(0, 8, 1, 1);
        x.month(1);
        dogs(x, 2, 1);
    }

    private static void dogsRefused() {
        FrozenIn x = Due.alone(0, 0, 0, 1);
        for (int f : Due.outside(0, 0)) {
            Due.same(18, "dogs(" + f + ", 0)", x.dogs(f, 0), FrozenIn.BAD);
        }
        for (int what : Due.outside(0, 1)) {
            Due.same(18, "dogs(0, " + what + ")", x.dogs(0, what), FrozenIn.BAD);
        }
        Due.same(18, "status(0)", x.status(0), 8);
    }

    private static void nothingIsChanged() {
        FrozenIn x = Due.alone(4, 3, 0, 1);
        x.floe(1, 30, 7);
        x.month(1);
        long before = x.digest();
        x.then(0, 60);
        x.out(0);
        x.need(1);
        x.enter(2, 60);
        x.nearest(0, 1, 0);
        x.dogs(1, 0);
        Due.same(13, "digest() behind all of these", x.digest(), before);
        Due.same(13, "undo()", x.undo(), 0);
    }
}
