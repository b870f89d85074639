/** Promises 13 to 25: each sentence that names an edge, with its own test. */
public final class Promise13To25EdgeTest {
    private static final int NONE = FrozenIn.NONE;

    private Promise13To25EdgeTest() {
    }

    public static void main(String[] args) {
        Edges edges = new Edges();
        tell(edges);
        edges.run();
    }

    static void tell(Edges edges) {
        tellWhereItDrifts(edges);
        tellFromWhere(edges);
        tellWhatItIs(edges);
    }

    private static void tellWhereItDrifts(Edges edges) {
        edges.in(Document.promise(13));
        edges.sentence("THEN. BAD.", Promise13To25EdgeTest::promise13Bad);
        edges.in(Document.promise(14));
        edges.sentence("OUT. NONE.", Promise13To25EdgeTest::promise14None);
        edges.sentence("BAD.", Promise13To25EdgeTest::promise14Bad);
        edges.in(Document.promise(15));
        edges.sentence("NEED. NONE.", Promise13To25EdgeTest::promise15None);
        edges.sentence("BAD.", Promise13To25EdgeTest::promise15Bad);
        edges.in(Document.promise(16));
        edges.sentence("ENTER, as bits.", Promise13To25EdgeTest::promise16NoBitsAndAll);
        edges.sentence("BAD.", Promise13To25EdgeTest::promise16Bad);
        edges.in(Document.promise(17));
        edges.sentence("NEAREST: in how many MONTHS (0), how FAR (1).", Promise13To25EdgeTest::promise17MonthsAndFar);
        edges.sentence("BAD: alike, too.", Promise13To25EdgeTest::promise17Bad);
        edges.in(Document.promise(18));
        edges.sentence("DOGS: how many MONTHS (0), at THE POLE (1). NONE.", Promise13To25EdgeTest::promise18NeverNone);
        edges.sentence("BAD.", Promise13To25EdgeTest::promise18Bad);
    }

    private static void tellFromWhere(Edges edges) {
        edges.in(Document.promise(19));
        edges.sentence("FOUND: how many there are.", Promise13To25EdgeTest::promise19HowMany);
        edges.sentence("BAD;", Promise13To25EdgeTest::promise19Bad);
        edges.sentence("FULL: 4.", Promise13To25EdgeTest::promise19FullAt4);
        edges.in(Document.promise(20));
        edges.sentence("FROM: how many (0), the least (1). NONE.", Promise13To25EdgeTest::promise20None);
        edges.sentence("BAD.", Promise13To25EdgeTest::promise20Bad);
        edges.in(Document.promise(21));
        edges.sentence("A NOTE: how many there are.", Promise13To25EdgeTest::promise21HowMany);
        edges.sentence("BAD;", Promise13To25EdgeTest::promise21Bad);
        edges.sentence("FULL: 6.", Promise13To25EdgeTest::promise21FullAt6);
        edges.in(Document.promise(22));
        edges.sentence("No FOUND (0), NOTES (1): how many there were.", Promise13To25EdgeTest::promise22NoneAndAll);
        edges.sentence("BAD.", Promise13To25EdgeTest::promise22Bad);
    }

    private static void tellWhatItIs(Edges edges) {
        edges.in(Document.promise(23));
        edges.sentence("IS, as bits.", Promise13To25EdgeTest::promise23NoBitsAndAll);
        edges.sentence("BAD.", Promise13To25EdgeTest::promise23Bad);
        edges.in(Document.promise(24));
        edges.sentence("WAIT. NONE.", Promise13To25EdgeTest::promise24None);
        edges.sentence("BAD.", Promise13To25EdgeTest::promise24Bad);
        edges.in(Document.promise(25));
        edges.sentence("LEAVE: how many (k = NONE), the k-th.", Promise13To25EdgeTest::promise25HowManyAndTheKth);
        edges.sentence("-5: not so many.", Promise13To25EdgeTest::promise25NotSoMany);
        edges.sentence("BAD: -10: alike, too.", Promise13To25EdgeTest::promise25Bad);
    }

    // ---- where it drifts

    private static void promise13Bad() {
        FrozenIn x = new FrozenIn();
        Due.bad(x, "then(0, 0) of none", () -> x.then(0, 0));
        x.floe(0, 0, 0);
        for (int f : Due.outside(0, 0)) {
            Due.bad(x, "then(" + f + ", 0)", () -> x.then(f, 0));
        }
        for (int m : Due.outside(0, 60)) {
            Due.bad(x, "then(0, " + m + ")", () -> x.then(0, m));
        }
        Due.same("then(0, 0)", x.then(0, 0), 0);
        Due.same("then(0, 60)", x.then(0, 60), 5);
    }

    private static void promise14None() {
        FrozenIn x = Due.alone(0, 34, 2, 1);
        Due.same("out(0) of one that goes back", x.out(0), NONE);
        x.moves(0, 35);
        Due.same("out(0) of one out now", x.out(0), 0);
        x.moves(0, 34);
        x.wind(11, 0, 3);
        Due.same("out(0): not from its first column", x.out(0), NONE);
        x.wind(0, 0, 1);
        Due.same("out(0)", x.out(0), 1);
        Due.same("status(0): NONE is no refusal", x.status(0), 0);
    }

    private static void promise14Bad() {
        FrozenIn x = new FrozenIn();
        Due.bad(x, "out(0) of none", () -> x.out(0));
        x.floe(0, 0, 0);
        for (int f : Due.outside(0, 0)) {
            Due.bad(x, "out(" + f + ")", () -> x.out(f));
        }
    }

    private static void promise15None() {
        FrozenIn x = Due.alone(0, 34, 2, 1);
        Due.same("need(0) of one that goes back", x.need(0), NONE);
        x.moves(0, 35);
        Due.same("need(0) of one out now", x.need(0), 0);
        x.moves(0, 34);
        x.wind(0, 0, 1);
        Due.same("need(0) of one out behind a MONTH", x.need(0), 1);
        x.feed(0, 1);
        Due.same("need(0) of one with FOOD for it", x.need(0), 0);
        Due.same("status(0): NONE is no refusal", x.status(0), 0);
    }

    private static void promise15Bad() {
        FrozenIn x = new FrozenIn();
        Due.bad(x, "need(0) of none", () -> x.need(0));
        x.floe(0, 0, 0);
        for (int f : Due.outside(0, 0)) {
            Due.bad(x, "need(" + f + ")", () -> x.need(f));
        }
    }

    private static void promise16NoBitsAndAll() {
        FrozenIn x = new FrozenIn();
        Due.same("enter(0, 4): no row", x.enter(0, 4), 0);
        Due.same("enter(0, 5): six rows", x.enter(0, 5), 63);
        Due.same("enter(5, 60): no row", x.enter(5, 60), 0);
        Due.windAlways(x, 0, 3);
        Due.same("enter(5, 2): no row by 2, 2", x.enter(5, 2), 0);
        Due.same("enter(5, 3): six rows by 2, 2, 1", x.enter(5, 3), 63);
    }

    private static void promise16Bad() {
        FrozenIn x = new FrozenIn();
        for (int kind : Due.outside(0, 5)) {
            Due.bad(x, "enter(" + kind + ", 5)", () -> x.enter(kind, 5));
        }
        for (int n : Due.outside(0, 60)) {
            Due.bad(x, "enter(0, " + n + ")", () -> x.enter(0, n));
        }
    }

    private static void promise17MonthsAndFar() {
        FrozenIn x = Due.alone(0, 0, 0, 1);
        x.floe(0, 35, 0);
        Due.same("nearest(0, 1, 0)", x.nearest(0, 1, 0), 5);
        Due.same("nearest(0, 1, 1)", x.nearest(0, 1, 1), 5);
        x.moves(1, 0);
        Due.same("nearest(0, 1, 0) of two in one CELL", x.nearest(0, 1, 0), 0);
        Due.same("nearest(0, 1, 1) of two in one CELL", x.nearest(0, 1, 1), 0);
        Due.windAlways(x, 0, 0);
        x.moves(1, 35);
        Due.same("nearest(0, 1, 0) of two corners in a calm", x.nearest(0, 1, 0), 0);
        Due.same("nearest(0, 1, 1) of two corners in a calm", x.nearest(0, 1, 1), 10);
    }

    private static void promise17Bad() {
        FrozenIn x = new FrozenIn();
        Due.bad(x, "nearest(0, 1, 0) of none", () -> x.nearest(0, 1, 0));
        x.floe(0, 0, 0);
        Due.bad(x, "nearest(0, 1, 0) of one", () -> x.nearest(0, 1, 0));
        Due.bad(x, "nearest(0, 0, 0) of one", () -> x.nearest(0, 0, 0));
        x.floe(0, 0, 0);
        for (int number : Due.outside(0, 1)) {
            Due.bad(x, "nearest(" + number + ", 0, 0)", () -> x.nearest(number, 0, 0));
            Due.bad(x, "nearest(0, " + number + ", 0)", () -> x.nearest(0, number, 0));
            Due.bad(x, "nearest(0, 1, " + number + ")", () -> x.nearest(0, 1, number));
        }
        for (int f = 0; f < 2; f++) {
            int like = f;
            Due.bad(x, "nearest(" + f + ", " + f + ", 0)", () -> x.nearest(like, like, 0));
            Due.bad(x, "nearest(" + f + ", " + f + ", 1)", () -> x.nearest(like, like, 1));
        }
    }

    /** From THE POLE each CELL is 6 FAR at most, so that NONE comes of no FLOE that is there. */
    private static void promise18NeverNone() {
        for (int way = 0; way < 4; way++) {
            for (int kind = 0; kind < 6; kind++) {
                FrozenIn x = Due.alone(kind, 0, way, 3);
                for (int cell : new int[] {0, 5, 14, 30, 35}) {
                    x.moves(0, cell);
                    int months = x.dogs(0, 0);
                    int toPole = x.dogs(0, 1);
                    Due.holds("dogs(0, 0) of KIND " + kind + " from " + cell + " are 1 to 6", months >= 1 && months <= 6);
                    Due.holds("dogs(0, 1) of KIND " + kind + " from " + cell + " are 1 to 3", toPole >= 1 && toPole <= 3);
                    Due.holds("dogs(0, 1) are no more than dogs(0, 0)", toPole <= months);
                }
            }
        }
    }

    private static void promise18Bad() {
        FrozenIn x = new FrozenIn();
        Due.bad(x, "dogs(0, 0) of none", () -> x.dogs(0, 0));
        x.floe(0, 0, 0);
        for (int f : Due.outside(0, 0)) {
            Due.bad(x, "dogs(" + f + ", 0)", () -> x.dogs(f, 0));
            Due.bad(x, "dogs(" + f + ", 1)", () -> x.dogs(f, 1));
        }
        for (int what : Due.outside(0, 1)) {
            Due.bad(x, "dogs(0, " + what + ")", () -> x.dogs(0, what));
        }
    }

    // ---- from where

    private static void promise19HowMany() {
        FrozenIn x = new FrozenIn();
        Due.same("found(0, 1, 0), the least of all", x.found(0, 1, 0), 1);
        Due.same("found(5, 60, 35), the most of all", x.found(5, 60, 35), 2);
        Due.same("found(5, 60, 35), the same", x.found(5, 60, 35), 3);
        x.forget(0);
        Due.same("found(0, 1, 0) behind forget(0)", x.found(0, 1, 0), 1);
        x.month(1);
        x.found(0, 1, 0);
        Due.same("undo(): FOUND are none that may be", x.undo(), 0);
        Due.same("count(3)", x.count(3), 2);
    }

    private static void promise19Bad() {
        FrozenIn x = new FrozenIn();
        for (int kind : Due.outside(0, 5)) {
            Due.bad(x, "found(" + kind + ", 1, 0)", () -> x.found(kind, 1, 0));
        }
        for (int m : Due.outside(1, 60)) {
            Due.bad(x, "found(0, " + m + ", 0)", () -> x.found(0, m, 0));
        }
        for (int cell : Due.outside(0, 35)) {
            Due.bad(x, "found(0, 1, " + cell + ")", () -> x.found(0, 1, cell));
        }
    }

    private static void promise19FullAt4() {
        FrozenIn x = new FrozenIn();
        for (int i = 1; i <= 4; i++) {
            Due.same("found(0, 60, 35)", x.found(0, 60, 35), i);
        }
        Due.full(x, "found(0, 60, 35), a fifth", () -> x.found(0, 60, 35));
        Due.bad(x, "found(6, 60, 35), a fifth", () -> x.found(6, 60, 35));
        Due.bad(x, "found(0, 61, 35), a fifth", () -> x.found(0, 61, 35));
        Due.bad(x, "found(0, 60, 36), a fifth", () -> x.found(0, 60, 36));
        Due.same("whence(0) by four", x.whence(0), 6);
    }

    private static void promise20None() {
        FrozenIn x = new FrozenIn();
        Due.same("whence(0) by no FOUND", x.whence(0), 36);
        Due.same("whence(1) by no FOUND", x.whence(1), 0);
        x.found(0, 1, 0);
        Due.same("whence(0): none", x.whence(0), 0);
        Due.same("whence(1): none", x.whence(1), NONE);
        x.forget(0);
        for (int i = 1; i <= 3; i++) {
            x.found(0, i, 29);
        }
        Due.same("whence(0) by three", x.whence(0), 2);
        Due.same("whence(1) by three", x.whence(1), 28);
        x.found(0, 4, 28);
        Due.same("whence(0): the fourth counts, too", x.whence(0), 0);
        Due.same("whence(1): the fourth counts, too", x.whence(1), NONE);
        Due.same("status(0): NONE is no refusal", x.status(0), 0);
    }

    private static void promise20Bad() {
        FrozenIn x = new FrozenIn();
        for (int what : Due.outside(0, 1)) {
            Due.bad(x, "whence(" + what + ")", () -> x.whence(what));
        }
    }

    // ---- what it is

    private static void promise21HowMany() {
        FrozenIn x = new FrozenIn();
        for (int f = 0; f < 5; f++) {
            x.floe(0, 0, 0);
        }
        Due.same("note(0, 0, 0, 0, 0, 0, 0), the least of all", x.note(0, 0, 0, 0, 0, 0, 0), 1);
        Due.same("note(4, 99, 3, 3, 5, 3, 3), the most of all", x.note(4, 99, 3, 3, 5, 3, 3), 2);
        Due.same("note(4, 99, 3, 3, 5, 3, 3), the same", x.note(4, 99, 3, 3, 5, 3, 3), 3);
        x.forget(1);
        Due.same("note(0, 0, 0, 0, 0, 0, 0) behind forget(1)", x.note(0, 0, 0, 0, 0, 0, 0), 1);
        x.month(1);
        x.note(0, 0, 0, 0, 0, 0, 0);
        Due.same("undo(): NOTES are none that may be", x.undo(), 0);
        Due.same("count(4)", x.count(4), 2);
    }

    private static void promise21Bad() {
        FrozenIn x = new FrozenIn();
        Due.bad(x, "a note of no floe", () -> x.note(0, 0, 0, 0, 0, 0, 0));
        x.floe(0, 0, 0);
        int[] most = {0, 99, 3, 3, 5, 3, 3};
        for (int at = 0; at < 7; at++) {
            for (int number : Due.outside(0, most[at])) {
                int[] a = new int[7];
                a[at] = number;
                Due.bad(x, "note() with " + number + " at " + at, () -> x.note(a[0], a[1], a[2], a[3], a[4], a[5], a[6]));
            }
        }
    }

    private static void promise21FullAt6() {
        FrozenIn x = new FrozenIn();
        x.floe(0, 0, 0);
        for (int i = 1; i <= 6; i++) {
            Due.same("note(0, 0, 0, 1, 0, 0, 1)", x.note(0, 0, 0, 1, 0, 0, 1), i);
        }
        Due.full(x, "a seventh note", () -> x.note(0, 0, 0, 0, 0, 0, 0));
        Due.bad(x, "a seventh note that is bad", () -> x.note(1, 0, 0, 0, 0, 0, 0));
        Due.bad(x, "a seventh note that is bad at its end", () -> x.note(0, 0, 0, 0, 0, 0, 4));
        Due.same("is(0) by six", x.is(0), 39);
    }

    private static void promise22NoneAndAll() {
        FrozenIn x = new FrozenIn();
        x.floe(0, 0, 0);
        Due.same("forget(0) of none", x.forget(0), 0);
        Due.same("forget(1) of none", x.forget(1), 0);
        for (int i = 0; i < 6; i++) {
            x.found(0, 1, 0);
            x.note(0, 0, 0, 0, 0, 0, 1);
        }
        Due.same("is(0) by six", x.is(0), 0);
        Due.same("forget(1) of all", x.forget(1), 6);
        Due.same("is(0) by none", x.is(0), 63);
        Due.same("count(4)", x.count(4), 0);
        Due.same("count(3): they stay", x.count(3), 4);
        Due.same("whence(0) by four", x.whence(0), 0);
        x.note(0, 0, 0, 0, 0, 0, 0);
        Due.same("forget(0) of all", x.forget(0), 4);
        Due.same("whence(0) by none", x.whence(0), 36);
        Due.same("count(3)", x.count(3), 0);
        Due.same("count(4): it stays", x.count(4), 1);
        Due.same("forget(0), again", x.forget(0), 0);
    }

    private static void promise22Bad() {
        FrozenIn x = new FrozenIn();
        x.floe(0, 0, 0);
        x.found(0, 1, 0);
        x.note(0, 0, 0, 0, 0, 0, 0);
        for (int what : Due.outside(0, 1)) {
            Due.bad(x, "forget(" + what + ")", () -> x.forget(what));
        }
    }

    private static void promise23NoBitsAndAll() {
        FrozenIn x = new FrozenIn();
        for (int f = 0; f < 5; f++) {
            x.floe(0, 0, 0);
        }
        x.note(4, 0, 0, 0, 0, 0, 1);
        for (int f = 0; f < 4; f++) {
            Due.same("is(" + f + ") without NOTES", x.is(f), 63);
        }
        Due.same("is(4): no KIND", x.is(4), 0);
        x.note(0, 0, 0, 0, 0, 0, 0);
        Due.same("is(0) by a calm", x.is(0), 63);
        x.note(0, 1, 0, 1, 3, 0, 0);
        Due.same("is(0): SPLIT, the highest bit", x.is(0), 32);
        x.note(1, 1, 0, 3, 0, 0, 1);
        x.note(1, 1, 0, 1, 0, 0, 1);
        Due.same("is(1): PLAIN, the lowest bit", x.is(1), 1);
    }

    private static void promise23Bad() {
        FrozenIn x = new FrozenIn();
        Due.bad(x, "is(0) of none", () -> x.is(0));
        x.floe(0, 0, 0);
        for (int f : Due.outside(0, 0)) {
            Due.bad(x, "is(" + f + ")", () -> x.is(f));
        }
    }

    private static void promise24None() {
        FrozenIn x = Due.alone(0, 0, 0, 0);
        x.wind(11, 0, 3);
        Due.same("waits(0)", x.waits(0), 11);
        x.note(0, 0, 0, 0, 0, 0, 1);
        Due.same("waits(0): no KIND", x.waits(0), NONE);
        Due.same("status(0): NONE is no refusal", x.status(0), 0);
        x.forget(1);
        x.note(0, 1, 0, 1, 3, 0, 0);
        Due.same("waits(0): one KIND is alike always", x.waits(0), 0);
        x.forget(1);
        x.wind(11, 0, 0);
        Due.same("waits(0): calm always", x.waits(0), 0);
    }

    private static void promise24Bad() {
        FrozenIn x = new FrozenIn();
        Due.bad(x, "waits(0) of none", () -> x.waits(0));
        x.floe(0, 0, 0);
        for (int f : Due.outside(0, 0)) {
            Due.bad(x, "waits(" + f + ")", () -> x.waits(f));
        }
    }

    private static FrozenIn two() {
        FrozenIn x = Due.alone(0, 14, 0, 0);
        x.floe(0, 14, 9);
        return x;
    }

    private static void promise25HowManyAndTheKth() {
        // Who leaves the first finds 9, 8, 7 .., who leaves the second finds none.
        FrozenIn x = two();
        Due.same("leave(0, 1, -1)", x.leave(0, 1, NONE), 6);
        int[] due = {1, 2, 3, 4, 5, 6};
        int[] other = {1, 6, 12, 18, 24, 30};
        for (int k = 0; k < 6; k++) {
            Due.same("leave(0, 1, " + k + ")", x.leave(0, 1, k), due[k]);
            Due.same("leave(1, 0, " + k + ")", x.leave(1, 0, k), other[k]);
        }
    }

    private static void promise25NotSoMany() {
        FrozenIn x = two();
        for (int k : new int[] {6, 7, 35, 36, 37, Integer.MAX_VALUE}) {
            Due.same("leave(0, 1, " + k + ")", x.leave(0, 1, k), -5);
        }
        Due.same("status behind -5", x.status(0) + x.status(1) + x.status(2), 0);
    }

    private static void promise25Bad() {
        FrozenIn x = new FrozenIn();
        Due.refused(x, "leave(0, 1, 0) of none", () -> x.leave(0, 1, 0), -10, 0);
        x.floe(0, 0, 0);
        Due.refused(x, "leave(0, 1, 0) of one", () -> x.leave(0, 1, 0), -10, 0);
        x.floe(0, 0, 0);
        for (int f : Due.outside(0, 1)) {
            Due.refused(x, "leave(" + f + ", 0, 0)", () -> x.leave(f, 0, 0), -10, 0);
            Due.refused(x, "leave(0, " + f + ", -1)", () -> x.leave(0, f, NONE), -10, 0);
        }
        Due.refused(x, "leave(0, 0, 0)", () -> x.leave(0, 0, 0), -10, 0);
        Due.refused(x, "leave(1, 1, -1)", () -> x.leave(1, 1, NONE), -10, 0);
        Due.refused(x, "leave(0, 1, -2)", () -> x.leave(0, 1, -2), -10, 0);
        Due.refused(x, "leave(0, 1, least)", () -> x.leave(0, 1, Integer.MIN_VALUE), -10, 0);
    }
}
