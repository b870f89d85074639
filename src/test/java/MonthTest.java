/** Promises 8 to 12: months that go by, food, floes moved, undone. */
public final class MonthTest {
    private MonthTest() {
    }

    public static void main(String[] args) {
        monthsGoBy();
        monthsEndAt999();
        monthRefused();
        fed();
        feedRefused();
        moved();
        movesRefused();
        undone();
        undoneEightAtMost();
        undoneNoMore();
        told();
        ofRefused();
        Due.end();
    }

    private static void monthsGoBy() {
        FrozenIn x = new FrozenIn();
        Due.same(8, "month(60) of no floes", x.month(60), 0);
        x.sea(0);
        x.floe(0, 3, 2);
        x.floe(0, 0, 60);
        Due.same(8, "month(1)", x.month(1), 0);
        Due.same(8, "of(0, 1)", x.of(0, 1), 4);
        Due.same(8, "of(0, 2)", x.of(0, 2), 1);
        Due.same(8, "of(1, 2)", x.of(1, 2), 59);
        Due.same(8, "month(1)", x.month(1), 1);
        Due.same(8, "of(0, 2)", x.of(0, 2), 0);
        Due.same(8, "month(2)", x.month(2), 1);
        Due.same(8, "of(0, 1): it stays at its edge", x.of(0, 1), 5);
        Due.same(8, "of(0, 2): 0 at least", x.of(0, 2), 0);
        Due.same(8, "month(1)", x.month(1), 2);
        Due.same(8, "count(1)", x.count(1), 5);
        Due.same(8, "count(2)", x.count(2), 2);
        Due.same(8, "count(5): four calls that may be undone", x.count(5), 4);
        x.wind(5, 2, 1);
        Due.same(8, "month(1): both back from out", x.month(1), 0);
    }

    private static void monthsEndAt999() {
        FrozenIn x = new FrozenIn();
        x.sea(99);
        x.floe(0, 0, 60);
        for (int m = 0; m < 12; m++) {
            x.wind(m, 0, 0);
        }
        for (int i = 0; i < 14; i++) {
            x.month(60);
        }
        x.month(59);
        Due.same(8, "count(1)", x.count(1), 998);
        x.feed(0, 10);
        x.month(5);
        Due.same(8, "count(1), 5 more", x.count(1), 999);
        Due.same(8, "of(0, 2): one month went by", x.of(0, 2), 9);
        Due.same(8, "undo()", x.undo(), 998);
        Due.same(8, "undo(), the food", x.undo(), 998);
        x.month(1);
        int ahead = x.count(5);
        x.moves(0, 4);
        x.wind(3, 0, 1);
        Due.same(8, "month(60) at 999", x.month(60), 0);
        Due.same(8, "of(0, 1): none went by", x.of(0, 1), 4);
        Due.same(8, "count(1)", x.count(1), 999);
        Due.same(8, "count(5): it may be undone", x.count(5), 1);
        Due.same(8, "count(5): 8 at most, 2 undone, 1 more", ahead, 7);
        Due.same(8, "undo()", x.undo(), 999);
        Due.same(8, "undo()", x.undo(), FrozenIn.NO);
    }

    private static void monthRefused() {
        FrozenIn x = new FrozenIn();
        x.floe(0, 0, 9);
        long before = x.digest();
        for (int n : Due.outside(1, 60)) {
            Due.same(8, "month(" + n + ")", x.month(n), FrozenIn.BAD);
        }
        Due.same(8, "digest()", x.digest(), before);
        Due.same(8, "status(0)", x.status(0), 4);
        Due.same(8, "month(60)", x.month(60), 1);
        Due.same(8, "count(1)", x.count(1), 60);
    }

    private static void fed() {
        FrozenIn x = new FrozenIn();
        x.floe(0, 0, 0);
        x.floe(0, 0, 60);
        Due.same(9, "feed(0, 1)", x.feed(0, 1), 1);
        Due.same(9, "feed(0, 60)", x.feed(0, 60), 61);
        Due.same(9, "feed(1, 38)", x.feed(1, 38), 98);
        Due.same(9, "feed(1, 2)", x.feed(1, 2), 99);
        Due.same(9, "feed(1, 60)", x.feed(1, 60), 99);
        Due.same(9, "of(1, 2)", x.of(1, 2), 99);
        Due.same(9, "of(0, 2)", x.of(0, 2), 61);
        Due.same(9, "count(5): at 99, too", x.count(5), 5);
        x.undo();
        x.undo();
        Due.same(9, "of(1, 2) behind two undo()", x.of(1, 2), 98);
    }

    private static void feedRefused() {
        FrozenIn x = new FrozenIn();
        Due.same(9, "feed(0, 1) of none", x.feed(0, 1), FrozenIn.BAD);
        x.floe(0, 0, 5);
        long before = x.digest();
        for (int f : Due.outside(0, 0)) {
            Due.same(9, "feed(" + f + ", 1)", x.feed(f, 1), FrozenIn.BAD);
        }
        for (int n : Due.outside(1, 60)) {
            Due.same(9, "feed(0, " + n + ")", x.feed(0, n), FrozenIn.BAD);
        }
        Due.same(9, "digest()", x.digest(), before);
        Due.same(9, "status(0)", x.status(0), 9);
    }

    private static void moved() {
        FrozenIn x = new FrozenIn();
        x.floe(0, 7, 5);
        x.floe(0, 8, 5);
        Due.same(10, "moves(0, 35)", x.moves(0, 35), 7);
        Due.same(10, "moves(0, 0)", x.moves(0, 0), 35);
        Due.same(10, "moves(0, 0)", x.moves(0, 0), 0);
        Due.same(10, "of(1, 1)", x.of(1, 1), 8);
        Due.same(10, "of(0, 2)", x.of(0, 2), 5);
        Due.same(10, "count(5): where it was, too", x.count(5), 3);
        x.undo();
        x.undo();
        Due.same(10, "of(0, 1) behind two undo()", x.of(0, 1), 35);
    }

    private static void movesRefused() {
        FrozenIn x = new FrozenIn();
        Due.same(10, "moves(0, 1) of none", x.moves(0, 1), FrozenIn.BAD);
        x.floe(0, 7, 5);
        long before = x.digest();
        for (int f : Due.outside(0, 0)) {
            Due.same(10, "moves(" + f + ", 1)", x.moves(f, 1), FrozenIn.BAD);
        }
        for (int cell : Due.outside(0, 35)) {
            Due.same(10, "moves(0, " + cell + ")", x.moves(0, cell), FrozenIn.BAD);
        }
        Due.same(10, "digest()", x.digest(), before);
        Due.same(10, "status(0)", x.status(0), 9);
    }

    private static void undone() {
        FrozenIn x = new FrozenIn();
        x.sea(10);
        x.floe(0, 0, 9);
        x.floe(1, 35, 0);
        x.found(0, 1, 0);
        x.note(0, 0, 0, 0, 0, 0, 0);
        long[] digests = new long[4];
        digests[0] = x.digest();
        x.month(13);
        digests[1] = x.digest();
        x.feed(1, 3);
        digests[2] = x.digest();
        x.moves(0, 17);
        digests[3] = x.digest();
        x.month(2);
        Due.same(11, "undo() of months", x.undo(), 23);
        Due.same(11, "digest()", x.digest(), digests[3]);
        Due.same(11, "undo() of a floe moved", x.undo(), 23);
        Due.same(11, "digest()", x.digest(), digests[2]);
        Due.same(11, "undo() of food", x.undo(), 23);
        Due.same(11, "digest()", x.digest(), digests[1]);
        x.forget(0);
        x.forget(1);
        Due.same(11, "undo() of months", x.undo(), 10);
        Due.same(11, "count(3): what was forgotten stays so", x.count(3), 0);
        Due.same(11, "count(4): what was forgotten stays so", x.count(4), 0);
        Due.same(11, "undo()", x.undo(), FrozenIn.NO);
        Due.same(11, "status(1)", x.status(1), 1);
    }

    private static void undoneEightAtMost() {
        FrozenIn x = new FrozenIn();
        x.floe(0, 0, 0);
        for (int i = 1; i <= 10; i++) {
            x.feed(0, i);
            Due.same(11, "count(5) behind " + i, x.count(5), Math.min(8, i));
        }
        for (int i = 10; i > 2; i--) {
            Due.same(11, "of(0, 2)", x.of(0, 2), i * (i + 1) / 2);
            Due.same(11, "undo()", x.undo(), 0);
        }
        Due.same(11, "of(0, 2)", x.of(0, 2), 3);
        Due.same(11, "undo(), a ninth", x.undo(), FrozenIn.NO);
        Due.same(11, "of(0, 2)", x.of(0, 2), 3);
    }

    private static void undoneNoMore() {
        FrozenIn x = new FrozenIn();
        x.month(1);
        x.floe(0, 0, 0);
        Due.same(11, "undo() behind a floe", x.undo(), FrozenIn.NO);
        x.month(1);
        x.wind(0, 0, 1);
        Due.same(11, "undo() behind a wind", x.undo(), FrozenIn.NO);
        x.month(1);
        x.wind(0, 0, 9);
        x.floe(0, 0, 99);
        x.found(0, 1, 1);
        x.note(0, 0, 0, 0, 0, 0, 0);
        x.image(0);
        x.calms(0, 1, 1);
        Due.same(11, "undo() behind all that leaves it", x.undo(), 2);
        Due.same(11, "status(1)", x.status(1), 2);
    }

    private static void told() {
        FrozenIn x = new FrozenIn();
        x.floe(3, 29, 42);
        x.floe(5, 28, 0);
        Due.same(12, "of(0, 0)", x.of(0, 0), 3);
        Due.same(12, "of(0, 1)", x.of(0, 1), 29);
        Due.same(12, "of(0, 2)", x.of(0, 2), 42);
        Due.same(12, "of(0, 3): column 5", x.of(0, 3), 1);
        Due.same(12, "of(1, 0)", x.of(1, 0), 5);
        Due.same(12, "of(1, 3): column 4", x.of(1, 3), 0);
        x.moves(0, 30);
        Due.same(12, "of(0, 3): row 5, column 0", x.of(0, 3), 0);
    }

    private static void ofRefused() {
        FrozenIn x = new FrozenIn();
        x.floe(0, 0, 0);
        for (int f : Due.outside(0, 0)) {
            Due.same(12, "of(" + f + ", 0)", x.of(f, 0), FrozenIn.BAD);
        }
        for (int what : Due.outside(0, 3)) {
            Due.same(12, "of(0, " + what + ")", x.of(0, what), FrozenIn.BAD);
        }
        Due.same(12, "of(9, 9): one refusal", x.of(9, 9), FrozenIn.BAD);
        Due.same(12, "status(0)", x.status(0), 9);
    }
}
