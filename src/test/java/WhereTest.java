/** Promises 19 to 27: from where, what a floe is, what to wait for, who leaves, calms, years. */
public final class WhereTest {
    private WhereTest() {
    }

    public static void main(String[] args) {
        foundOnes();
        foundRefused();
        whenceFrom();
        whenceRefused();
        notes();
        notesRefused();
        forgotten();
        kindsByNotes();
        kindsByCellsAsTold();
        kindsRefused();
        waitsForWinds();
        waitsForMonths();
        waitsByItsColumn();
        leaves();
        leavesByFoodAndMonth();
        leavesTogether();
        leaveRefused();
        calms();
        calmsAtTheEnd();
        calmsRefused();
        years();
        yearsByMonths();
        yearsRefused();
        Due.end();
    }

    private static void foundOnes() {
        FrozenIn x = new FrozenIn();
        x.month(1);
        Due.same(19, "found(0, 1, 0)", x.found(0, 1, 0), 1);
        Due.same(19, "found(5, 60, 35)", x.found(5, 60, 35), 2);
        Due.same(19, "found(5, 60, 35)", x.found(5, 60, 35), 3);
        Due.same(19, "found(2, 30, 1)", x.found(2, 30, 1), 4);
        Due.same(19, "found(2, 30, 1), a fifth", x.found(2, 30, 1), FrozenIn.FULL);
        Due.same(19, "found(6, 30, 1), a fifth", x.found(6, 30, 1), FrozenIn.BAD);
        Due.same(19, "count(3)", x.count(3), 4);
        Due.same(19, "status(0)", x.status(0), 1);
        Due.same(19, "status(2)", x.status(2), 1);
        Due.same(19, "count(5): it may be undone still", x.count(5), 1);
    }

    private static void foundRefused() {
        FrozenIn x = new FrozenIn();
        for (int kind : Due.outside(0, 5)) {
            Due.same(19, "found(" + kind + ", 1, 0)", x.found(kind, 1, 0), FrozenIn.BAD);
        }
        for (int m : Due.outside(1, 60)) {
            Due.same(19, "found(0, " + m + ", 0)", x.found(0, m, 0), FrozenIn.BAD);
        }
        for (int cell : Due.outside(0, 35)) {
            Due.same(19, "found(0, 1, " + cell + ")", x.found(0, 1, cell), FrozenIn.BAD);
        }
        Due.same(19, "count(3)", x.count(3), 0);
        Due.same(19, "status(0)", x.status(0), 12);
    }

    private static void whence(FrozenIn x, int howMany, int least) {
        Due.same(20, "whence(0)", x.whence(0), howMany);
        Due.same(20, "whence(1)", x.whence(1), least);
    }

    private static void whenceFrom() {
        FrozenIn x = new FrozenIn();
        whence(x, 36, 0);
        x.found(0, 1, 1);
        whence(x, 1, 0);
        x.forget(0);
        x.found(0, 1, 5);
        whence(x, 2, 4);
        x.found(0, 60, 5);
        whence(x, 2, 4);
        x.found(0, 60, 35);
        whence(x, 0, FrozenIn.NONE);
        x.forget(0);
        x.found(0, 60, 35);
        whence(x, 6, 30);
        // SHOAL stays in its column 1 where PLAIN goes to its edge.
        x.found(3, 60, 31);
        whence(x, 1, 31);
        x.found(3, 60, 30);
        whence(x, 0, FrozenIn.NONE);
        x.forget(0);
        x.found(0, 2, 0);
        whence(x, 0, FrozenIn.NONE);
        x.wind(0, 2, 1);
        x.wind(1, 3, 1);
        whence(x, 4, 0);
        // As MONTH 0 begins, whatever the MONTH is now.
        x.sea(7);
        x.found(2, 1, 7);
        whence(x, 1, 6);
        x.found(2, 2, 13);
        whence(x, 1, 6);
    }

    private static void whenceRefused() {
        FrozenIn x = new FrozenIn();
        for (int what : Due.outside(0, 1)) {
            Due.same(20, "whence(" + what + ")", x.whence(what), FrozenIn.BAD);
        }
        x.found(0, 1, 0);
        whence(x, 0, FrozenIn.NONE);
        Due.same(20, "status(0): NONE is no refusal", x.status(0), 4);
    }

    private static void notes() {
        FrozenIn x = new FrozenIn();
        x.floe(0, 0, 0);
        Due.same(21, "note(0, 0, 0, 0, 0, 0, 0)", x.note(0, 0, 0, 0, 0, 0, 0), 1);
        Due.same(21, "note(0, 99, 3, 3, 5, 3, 3)", x.note(0, 99, 3, 3, 5, 3, 3), 2);
        for (int i = 3; i <= 6; i++) {
            Due.same(21, "note(0, 1, 2, 1, 2, 1, 0)", x.note(0, 1, 2, 1, 2, 1, 0), i);
        }
        Due.same(21, "a seventh note", x.note(0, 0, 0, 0, 0, 0, 0), FrozenIn.FULL);
        Due.same(21, "a seventh note that is bad", x.note(1, 0, 0, 0, 0, 0, 0), FrozenIn.BAD);
        Due.same(21, "count(4)", x.count(4), 6);
        Due.same(21, "status(2)", x.status(2), 1);
    }

    private static void notesRefused() {
        FrozenIn x = new FrozenIn();
        Due.same(21, "a note of no floe", x.note(0, 0, 0, 0, 0, 0, 0), FrozenIn.BAD);
        x.floe(0, 0, 0);
        int[] most = {0, 99, 3, 3, 5, 3, 3};
        for (int at = 0; at < 7; at++) {
            for (int number : Due.outside(0, most[at])) {
                int[] a = new int[7];
                a[at] = number;
                Due.same(21, "note() with " + number + " at " + at,
                        x.note(a[0], a[1], a[2], a[3], a[4], a[5], a[6]), FrozenIn.BAD);
            }
        }
        Due.same(21, "count(4)", x.count(4), 0);
        Due.same(21, "status(0)", x.status(0), 29);
    }

    private static void forgotten() {
        FrozenIn x = new FrozenIn();
        x.floe(0, 0, 0);
        x.found(0, 1, 0);
        x.note(0, 0, 0, 0, 0, 0, 0);
        x.note(0, 0, 0, 0, 0, 0, 0);
        Due.same(22, "forget(1)", x.forget(1), 2);
        Due.same(22, "count(4)", x.count(4), 0);
        Due.same(22, "count(3)", x.count(3), 1);
        Due.same(22, "forget(0)", x.forget(0), 1);
        Due.same(22, "forget(0)", x.forget(0), 0);
        Due.same(22, "forget(1)", x.forget(1), 0);
        for (int what : Due.outside(0, 1)) {
            Due.same(22, "forget(" + what + ")", x.forget(what), FrozenIn.BAD);
        }
        Due.same(22, "status(0)", x.status(0), 4);
    }

    /** IS of a new floe by just this note. */
    private static int by(int m, int w, int s, int c, int y, int n) {
        FrozenIn x = new FrozenIn();
        x.floe(0, 0, 0);
        x.note(0, m, w, s, c, y, n);
        return x.is(0);
    }

    private static void kindsByNotes() {
        Due.same(23, "is(0): as the wind in MONTH 0", by(0, 0, 1, 2, 0, 1), 47);
        Due.same(23, "is(0): the opposite in MONTH 0", by(0, 0, 1, 2, 2, 1), 16);
        Due.same(23, "is(0): the right in MONTH 1", by(1, 0, 1, 2, 1, 1), 20);
        Due.same(23, "is(0): the right in MONTH 1, by WAY 3", by(1, 3, 1, 2, 0, 1), 20);
        Due.same(23, "is(0): the right in MONTH 3", by(3, 0, 1, 2, 1, 1), 4);
        Due.same(23, "is(0): its opposite in MONTH 3", by(3, 0, 1, 2, 3, 1), 16);
        Due.same(23, "is(0): 2 CELLS by 3", by(0, 0, 3, 2, 0, 2), 34);
        Due.same(23, "is(0): 1 by 3, from column 3", by(1, 0, 3, 3, 0, 1), 41);
        Due.same(23, "is(0): none by 1, from column 3", by(1, 0, 1, 3, 3, 0), 32);
        Due.same(23, "is(0): none by 1, from column 1", by(1, 0, 1, 1, 3, 0), 8);
        Due.same(23, "is(0): none by 2, from column 1", by(1, 0, 2, 1, 3, 0), 0);
        Due.same(23, "is(0): none by 0", by(0, 0, 0, 0, 2, 0), 63);
        Due.same(23, "is(0): 3 CELLS", by(0, 0, 3, 0, 0, 3), 0);
        FrozenIn x = new FrozenIn();
        x.floe(0, 0, 0);
        x.floe(1, 0, 0);
        x.note(0, 0, 0, 1, 2, 0, 1);
        x.note(1, 0, 0, 1, 2, 2, 1);
        Due.same(23, "is(0): by its own notes", x.is(0), 47);
        Due.same(23, "is(1): by its own notes", x.is(1), 16);
        x.note(0, 1, 0, 3, 2, 0, 2);
        Due.same(23, "is(0): all of them", x.is(0), 34);
        x.note(0, 1, 0, 1, 3, 0, 0);
        Due.same(23, "is(0)", x.is(0), 32);
        x.forget(1);
        Due.same(23, "is(0): no notes", x.is(0), 63);
    }

    /** What a KIND tells counts, not what the sea's edge leaves of it. */
    private static void kindsByCellsAsTold() {
        Due.same(23, "is(0): off the sea", by(0, 0, 1, 5, 0, 1), 15);
        Due.same(23, "is(0): 2 from column 4", by(0, 0, 3, 4, 0, 2), 2);
    }

    private static void kindsRefused() {
        FrozenIn x = new FrozenIn();
        Due.same(23, "is(0) of none", x.is(0), FrozenIn.BAD);
        Due.same(24, "waits(0) of none", x.waits(0), FrozenIn.BAD);
        x.floe(0, 0, 0);
        for (int f : Due.outside(0, 0)) {
            Due.same(23, "is(" + f + ")", x.is(f), FrozenIn.BAD);
            Due.same(24, "waits(" + f + ")", x.waits(f), FrozenIn.BAD);
        }
        Due.same(24, "status(0)", x.status(0), 10);
    }

    private static void waitsForWinds() {
        FrozenIn x = new FrozenIn();
        Due.windAlways(x, 0, 0);
        x.floe(0, 0, 0);
        Due.same(24, "waits(0): calm always", x.waits(0), 0);
        x.wind(7, 0, 3);
        Due.same(24, "waits(0)", x.waits(0), 7);
        x.month(8);
        Due.same(24, "waits(0): next year's", x.waits(0), 11);
        x.note(0, 0, 0, 0, 0, 0, 1);
        Due.same(24, "waits(0): no kind", x.waits(0), FrozenIn.NONE);
        x.forget(1);
        x.note(0, 1, 0, 1, 1, 3, 0);
        Due.same(24, "waits(0): one kind", x.waits(0), 0);
    }

    private static void waitsForMonths() {
        FrozenIn x = new FrozenIn();
        x.floe(0, 2, 0);
        // Column 2, strength 1: in MONTH 0 BACK alone goes back; in MONTH 1 RING and BACK go right;
        // in MONTH 3 RING goes right, BACK the opposite, four kinds as the wind.
        Due.same(24, "waits(0), column 2", x.waits(0), 1);
        x.moves(0, 0);
        // Column 0: SHOAL stays, so that three, two and one are alike in MONTH 1.
        Due.same(24, "waits(0), column 0", x.waits(0), 1);
        // PLAIN and RING: unlike in odd MONTHS alone.
        x.note(0, 0, 0, 3, 0, 0, 1);
        Due.same(23, "is(0)", x.is(0), 13);
        x.note(0, 0, 0, 1, 0, 0, 1);
        Due.same(23, "is(0)", x.is(0), 5);
        Due.same(24, "waits(0): PLAIN or RING", x.waits(0), 1);
        x.month(1);
        Due.same(24, "waits(0): PLAIN or RING, in MONTH 1", x.waits(0), 0);
        x.wind(1, 0, 0);
        Due.same(24, "waits(0): calm, so they are alike", x.waits(0), 2);
    }

    private static void waitsByItsColumn() {
        FrozenIn x = new FrozenIn();
        Due.windAlways(x, 0, 0);
        x.wind(1, 0, 1);
        x.wind(5, 0, 3);
        // In MONTH 5 two are alike in column 0; in column 3 SPLIT goes as PLAIN and SHOAL: three, as in MONTH 1.
        x.floe(0, 18, 0);
        x.floe(0, 3, 0);
        Due.same(24, "waits(0): row 3, column 0", x.waits(0), 5);
        Due.same(24, "waits(1): row 0, column 3", x.waits(1), 1);
    }

    private static void pairs(FrozenIn x, int a, int b, int... due) {
        Due.same(25, "leave(" + a + ", " + b + ", -1)", x.leave(a, b, FrozenIn.NONE), due.length);
        for (int k = 0; k < due.length; k++) {
            Due.same(25, "leave(" + a + ", " + b + ", " + k + ")", x.leave(a, b, k), due[k]);
        }
        Due.same(25, "one more", x.leave(a, b, due.length), -5);
        Due.same(25, "far more", x.leave(a, b, Integer.MAX_VALUE), -5);
    }

    private static void leaves() {
        FrozenIn x = new FrozenIn();
        Due.windAlways(x, 0, 0);
        x.floe(0, 0, 10);
        x.floe(0, 1, 0);
        // Who leaves a finds no food whenever; who leaves b finds 1 less each month.
        pairs(x, 0, 1, 1, 6, 12, 18, 24, 30);
        pairs(x, 1, 0, 1, 2, 3, 4, 5, 6);
        Due.same(25, "status(0): not so many is no refusal", x.status(0) + x.status(1) + x.status(2), 0);
    }

    private static void leavesByFoodAndMonth() {
        FrozenIn x = new FrozenIn();
        Due.windAlways(x, 0, 0);
        x.floe(0, 0, 60);
        x.floe(0, 35, 60);
        // Each wants to go now, but not both: 5 less is more than 1 less.
        pairs(x, 0, 1, 1, 6);
        FrozenIn y = new FrozenIn();
        Due.windAlways(y, 0, 0);
        y.wind(0, 0, 1);
        y.wind(1, 0, 1);
        y.floe(3, 5, 60);
        y.floe(0, 3, 60);
        // FAR 2, 1, 0, 0 ..: who goes alone gets 58, 58, 58, 57, 56, 55; 5 less if both go at once.
        pairs(y, 0, 1, 1, 2, 6, 8, 12, 13);
    }

    private static void leavesTogether() {
        FrozenIn x = new FrozenIn();
        Due.windAlways(x, 0, 0);
        x.floe(0, 0, 1);
        x.floe(0, 1, 1);
        // Food is 0 at least: all MONTHS but the first are alike.
        pairs(x, 0, 1, 1, 2, 3, 4, 5, 6, 12, 18, 24, 30);
        FrozenIn y = new FrozenIn();
        Due.windAlways(y, 0, 0);
        y.wind(0, 0, 3);
        y.floe(1, 2, 60);
        y.floe(4, 2, 60);
        // LEAD and BACK part by 3: a MONTH later each gets 4 less, which is more than 5 less.
        pairs(y, 0, 1, 1, 6);
    }

    private static void leaveRefused() {
        FrozenIn x = new FrozenIn();
        Due.same(25, "leave(0, 1, 0) of none", x.leave(0, 1, 0), -10);
        x.floe(0, 0, 0);
        x.floe(0, 0, 0);
        for (int f : Due.outside(0, 1)) {
            Due.same(25, "leave(" + f + ", 0, 0)", x.leave(f, 0, 0), -10);
            Due.same(25, "leave(0, " + f + ", 0)", x.leave(0, f, 0), -10);
        }
        Due.same(25, "leave(1, 1, 0)", x.leave(1, 1, 0), -10);
        Due.same(25, "leave(0, 1, -2)", x.leave(0, 1, -2), -10);
        Due.same(25, "leave(0, 1, least)", x.leave(0, 1, Integer.MIN_VALUE), -10);
        Due.same(25, "status(0)", x.status(0), 12);
    }

    private static void chance(FrozenIn x, int m, int c, long above, long below) {
        Due.same(26, "calms(0, " + m + ", " + c + ")", x.calms(0, m, c), 1);
        Due.same(26, "part(0) of calms(0, " + m + ", " + c + ")", x.part(0), above);
        Due.same(26, "part(1) of calms(0, " + m + ", " + c + ")", x.part(1), below);
    }

    private static void calms() {
        FrozenIn x = new FrozenIn();
        x.floe(0, 3, 0);
        chance(x, 2, 3, 49, 100);
        chance(x, 3, 3, 98, 125);
        chance(x, 2, 0, 1, 1);
        chance(x, 1, 0, 0, 1);
        chance(x, 8, 10, 0, 1);
        chance(x, 8, 5, 247, 256);
        chance(x, 8, 9, 18689527, 100000000);
        chance(x, 0, 5, 0, 1);
        x.moves(0, 0);
        chance(x, 5, 0, 1, 1);
        chance(x, 6, 5, 7, 64);
        x.moves(0, 30);
        chance(x, 5, 5, 1, 32);
        x.moves(0, 5);
        chance(x, 0, 5, 1, 1);
        chance(x, 8, 5, 1, 1);
    }

    /** OUT behind m MONTHS, not by then. */
    private static void calmsAtTheEnd() {
        FrozenIn x = new FrozenIn();
        x.wind(1, 2, 1);
        x.floe(0, 4, 0);
        chance(x, 1, 0, 1, 1);
        chance(x, 2, 0, 0, 1);
        chance(x, 2, 5, 1, 4);
        long before = x.digest();
        x.month(1);
        chance(x, 1, 2, 1, 5);
        x.undo();
        chance(x, 2, 5, 1, 4);
        Due.same(26, "digest(): nothing but the fraction is changed", x.digest(), before);
    }

    private static void calmsRefused() {
        FrozenIn x = new FrozenIn();
        x.floe(0, 5, 0);
        for (int f : Due.outside(0, 0)) {
            Due.same(26, "calms(" + f + ", 1, 1)", x.calms(f, 1, 1), FrozenIn.BAD);
        }
        for (int m : Due.outside(0, 8)) {
            Due.same(26, "calms(0, " + m + ", 1)", x.calms(0, m, 1), FrozenIn.BAD);
        }
        for (int c : Due.outside(0, 10)) {
            Due.same(26, "calms(0, 1, " + c + ")", x.calms(0, 1, c), FrozenIn.BAD);
        }
        Due.same(26, "part(0)", x.part(0), 0);
        Due.same(26, "status(0)", x.status(0), 12);
    }

    private static void years() {
        // From SEED 0, X is 12345, 1406932606, 654583775, 1449466924, 229283573:
        // the winds are 0 0, 0 1, 0 0, 1 2, 2 2.
        FrozenIn x = new FrozenIn();
        x.floe(0, 4, 0);
        x.floe(0, 35, 0);
        x.floe(0, 3, 0);
        int[] due = {1, 1, 2, 2, 2, 0};
        for (int n = 0; n <= 5; n++) {
            Due.same(27, "years(0, " + n + ")", x.years(0, n), due[n]);
        }
        Due.same(27, "years(999999, 0)", x.years(999999, 0), 1);
        long before = x.digest();
        x.years(999999, 60);
        Due.same(27, "digest() behind years", x.digest(), before);
        Due.same(27, "years(0, 60) of no floes", new FrozenIn().years(0, 60), 0);
    }

    private static void yearsByMonths() {
        FrozenIn x = new FrozenIn();
        x.floe(2, 4, 0);
        Due.same(27, "years(0, 2): the second MONTH is odd", x.years(0, 2), 0);
        x.sea(1);
        x.floe(2, 4, 0);
        Due.same(27, "years(0, 2): the second MONTH is even", x.years(0, 2), 1);
    }

    private static void yearsRefused() {
        FrozenIn x = new FrozenIn();
        for (int seed : Due.outside(0, 999999)) {
            Due.same(27, "years(" + seed + ", 1)", x.years(seed, 1), FrozenIn.BAD);
        }
        for (int n : Due.outside(0, 60)) {
            Due.same(27, "years(0, " + n + ")", x.years(0, n), FrozenIn.BAD);
        }
        Due.same(27, "status(0)", x.status(0), 8);
    }
}
