/** Promises 1 to 12: each sentence that names an edge, with its own test. */
public final class Promise1To12EdgeTest {
    private static final int NO = FrozenIn.NO;

    private Promise1To12EdgeTest() {
    }

    public static void main(String[] args) {
        Edges edges = new Edges();
        tell(edges);
        edges.run();
    }

    static void tell(Edges edges) {
        tellASea(edges);
        tellTheText(edges);
        tellMonths(edges);
    }

    private static void tellASea(Edges edges) {
        edges.in(Document.promise(1));
        edges.sentence("As told; no FLOES.", Promise1To12EdgeTest::promise1NewObject);
        edges.in(Document.promise(2));
        edges.sentence("The MONTH (0 .. 99),", Promise1To12EdgeTest::promise2MonthOf0To99);
        edges.sentence("all else as at first", Promise1To12EdgeTest::promise2AllElseAsAtFirst);
        edges.sentence("(but for IMAGES, THE TEXT, THE FRACTION, STATUS):", Promise1To12EdgeTest::promise2WhatStays);
        edges.sentence("how many FLOES there were.", Promise1To12EdgeTest::promise2HowManyThereWere);
        edges.sentence("BAD.", Promise1To12EdgeTest::promise2Bad);
        edges.in(Document.promise(3));
        edges.sentence("A WIND of a MONTH (0 .. 11):", Promise1To12EdgeTest::promise3MonthOf0To11);
        edges.sentence("10 times its WAY and STRENGTH ahead of it.", Promise1To12EdgeTest::promise3WindAheadOfIt);
        edges.sentence("BAD.", Promise1To12EdgeTest::promise3Bad);
        edges.in(Document.promise(4));
        edges.sentence("A FLOE: its number.", Promise1To12EdgeTest::promise4Numbers);
        edges.sentence("BAD;", Promise1To12EdgeTest::promise4Bad);
        edges.sentence("FULL: 5.", Promise1To12EdgeTest::promise4FullAt5);
    }

    private static void tellTheText(Edges edges) {
        edges.in(Document.promise(5));
        edges.sentence("A byte (0 .. 127) comes behind THE TEXT: how many it has.", Promise1To12EdgeTest::promise5BytesOf0To127);
        edges.sentence("BAD;", Promise1To12EdgeTest::promise5Bad);
        edges.sentence("FULL.", Promise1To12EdgeTest::promise5FullAt150);
        edges.in(Document.promise(6));
        edges.sentence("THE TEXT is empty: how many it had.", Promise1To12EdgeTest::promise6EmptyAndFull);
        edges.in(Document.promise(7));
        edges.sentence("THE SEA is read: how many ITEMS.", Promise1To12EdgeTest::promise7HowManyItems);
        edges.sentence("-10 less the FAULT:", Promise1To12EdgeTest::promise7FaultOf0To150);
        edges.sentence("all stays.", Promise1To12EdgeTest::promise7AllStays);
    }

    private static void tellMonths(Edges edges) {
        edges.in(Document.promise(8));
        edges.sentence("n MONTHS go by (1 .. 60;", Promise1To12EdgeTest::promise8Of1To60);
        edges.sentence("together one that may be undone,", Promise1To12EdgeTest::promise8UndoneTogether);
        edges.sentence("also if none goes by;", Promise1To12EdgeTest::promise8UndoneIfNoneGoesBy);
        edges.sentence("at 999 none goes by)", Promise1To12EdgeTest::promise8NoneGoesByAt999);
        edges.sentence("how many FLOES are OUT then.", Promise1To12EdgeTest::promise8HowManyAreOut);
        edges.sentence("BAD.", Promise1To12EdgeTest::promise8Bad);
        edges.in(Document.promise(9));
        edges.sentence("FOOD of a FLOE is n (1 .. 60) more", Promise1To12EdgeTest::promise9Of1To60);
        edges.sentence("(99 at most): how much.", Promise1To12EdgeTest::promise9AtMost99);
        edges.sentence("BAD.", Promise1To12EdgeTest::promise9Bad);
        edges.in(Document.promise(10));
        edges.sentence("A FLOE is moved to a CELL: where it was.", Promise1To12EdgeTest::promise10WhereItWas);
        edges.sentence("BAD.", Promise1To12EdgeTest::promise10Bad);
        edges.in(Document.promise(11));
        edges.sentence("UNDO: the MONTH then.", Promise1To12EdgeTest::promise11TheMonthThen);
        edges.sentence("NO: none may be.", Promise1To12EdgeTest::promise11No);
        edges.in(Document.promise(12));
        edges.sentence("Of a FLOE: KIND (0), CELL (1), FOOD (2), OUT (3; 1, 0).", Promise1To12EdgeTest::promise12LeastAndMost);
        edges.sentence("BAD.", Promise1To12EdgeTest::promise12Bad);
    }

    private static void promise1NewObject() {
        FrozenIn x = new FrozenIn();
        for (int what = 0; what <= 6; what++) {
            Due.same("count(" + what + ") of a new one", x.count(what), 0);
        }
        Due.same("whence(0) of a new one", x.whence(0), 36);
        Due.same("part(0) of a new one", x.part(0), 0);
        Due.same("part(1) of a new one", x.part(1), 1);
        for (int what = 0; what <= 2; what++) {
            Due.same("status(" + what + ") of a new one", x.status(what), 0);
        }
        Due.same("years(0, 60) of a new one", x.years(0, 60), 0);
        Due.same("clear() of a new one", x.clear(), 0);
        Due.same("read() of a new one", x.read(), -10);
        Due.same("forget(0) of a new one", x.forget(0), 0);
        Due.same("forget(1) of a new one", x.forget(1), 0);
        Due.bad(x, "out(0) of a new one", () -> x.out(0));
        Due.refused(x, "undo() of a new one", x::undo, NO, 1);
        Due.refused(x, "from(0) of a new one", () -> x.from(0), NO, 1);
        Due.same("sea(0) of a new one", x.sea(0), 0);
    }

    // ---- sea

    private static void promise2MonthOf0To99() {
        FrozenIn x = new FrozenIn();
        x.month(3);
        Due.same("sea(0)", x.sea(0), 0);
        Due.same("count(1)", x.count(1), 0);
        Due.same("sea(99)", x.sea(99), 0);
        Due.same("count(1)", x.count(1), 99);
        FrozenIn y = Due.inMonth(999);
        Due.same("sea(1) from 999", y.sea(1), 0);
        Due.same("count(1)", y.count(1), 1);
    }

    private static void promise2AllElseAsAtFirst() {
        FrozenIn x = new FrozenIn();
        for (int m = 0; m < 12; m++) {
            x.wind(m, 3, 3);
        }
        x.floe(5, 35, 60);
        x.found(0, 1, 1);
        x.note(0, 0, 0, 0, 0, 0, 0);
        x.month(1);
        x.sea(0);
        Due.same("digest() behind sea(0)", x.digest(), new FrozenIn().digest());
        Due.refused(x, "undo() behind sea(0)", x::undo, NO, 1);
        Due.same("whence(0)", x.whence(0), 36);
        x.floe(0, 0, 0);
        Due.same("is(0)", x.is(0), 63);
        Due.same("out(0)", x.out(0), 5);
        Due.same("of(0, 2)", x.of(0, 2), 0);
    }

    private static void promise2WhatStays() {
        FrozenIn x = new FrozenIn();
        x.floe(0, 4, 9);
        x.image(0);
        x.image(1);
        x.calms(0, 1, 3);
        Due.write(x, "sea 7;");
        x.of(5, 0);
        x.undo();
        for (int i = 0; i < 5; i++) {
            x.floe(0, 0, 0);
        }
        x.sea(5);
        Due.same("part(0)", x.part(0), 7);
        Due.same("part(1)", x.part(1), 10);
        for (int what = 0; what < 3; what++) {
            Due.same("status(" + what + ")", x.status(what), 1);
        }
        Due.same("read() of the text that stays", x.read(), 1);
        Due.same("count(1)", x.count(1), 7);
        for (int i = 0; i < 2; i++) {
            x.sea(0);
            Due.same("from(" + i + ")", x.from(i), 1);
            Due.same("of(0, 1) from " + i, x.of(0, 1), 4);
        }
    }

    private static void promise2HowManyThereWere() {
        FrozenIn x = new FrozenIn();
        for (int floes = 0; floes <= 5; floes++) {
            for (int f = 0; f < floes; f++) {
                x.floe(0, 0, 0);
            }
            Due.same("sea(3) with " + floes, x.sea(3), floes);
        }
        Due.same("sea(3), just begun", x.sea(3), 0);
    }

    private static void promise2Bad() {
        FrozenIn x = new FrozenIn();
        x.floe(0, 4, 9);
        x.month(1);
        for (int month : Due.outside(0, 99)) {
            Due.bad(x, "sea(" + month + ")", () -> x.sea(month));
        }
        Due.same("undo() behind those refused", x.undo(), 0);
    }

    // ---- wind

    private static void promise3MonthOf0To11() {
        FrozenIn x = new FrozenIn();
        x.floe(0, 14, 0);
        Due.same("wind(0, 1, 1)", x.wind(0, 1, 1), 1);
        Due.same("wind(11, 2, 1)", x.wind(11, 2, 1), 1);
        Due.same("then(0, 1) by the wind of 0", x.then(0, 1), 20);
        Due.same("then(0, 11) by all but that of 11", x.then(0, 11), 23);
        Due.same("then(0, 12) by that of 11", x.then(0, 12), 22);
    }

    private static void promise3WindAheadOfIt() {
        FrozenIn x = new FrozenIn();
        int ahead = 1;
        for (int way = 0; way < 4; way++) {
            for (int strength = 0; strength < 4; strength++) {
                Due.same("wind(5, " + way + ", " + strength + ")", x.wind(5, way, strength), ahead);
                ahead = 10 * way + strength;
            }
        }
        Due.same("wind(5, 0, 0)", x.wind(5, 0, 0), 33);
        Due.same("wind(4, 0, 0): its own", x.wind(4, 0, 0), 1);
        Due.same("wind(6, 0, 0): its own", x.wind(6, 0, 0), 1);
    }

    private static void promise3Bad() {
        FrozenIn x = new FrozenIn();
        x.month(1);
        for (int m : Due.outside(0, 11)) {
            Due.bad(x, "wind(" + m + ", 0, 0)", () -> x.wind(m, 0, 0));
        }
        for (int number : Due.outside(0, 3)) {
            Due.bad(x, "wind(0, " + number + ", 0)", () -> x.wind(0, number, 0));
            Due.bad(x, "wind(0, 0, " + number + ")", () -> x.wind(0, 0, number));
        }
        Due.same("undo() behind those refused", x.undo(), 0);
    }

    // ---- floe

    private static void promise4Numbers() {
        FrozenIn x = new FrozenIn();
        for (int f = 0; f < 5; f++) {
            Due.same("floe(" + f + ", " + 7 * f + ", " + 15 * f + ")", x.floe(f, 7 * f, 15 * f), f);
            Due.same("count(0)", x.count(0), f + 1);
        }
        for (int f = 0; f < 5; f++) {
            Due.same("of(" + f + ", 0)", x.of(f, 0), f);
            Due.same("of(" + f + ", 1)", x.of(f, 1), 7 * f);
            Due.same("of(" + f + ", 2)", x.of(f, 2), 15 * f);
        }
        FrozenIn y = new FrozenIn();
        Due.same("floe(0, 0, 0), the least of all", y.floe(0, 0, 0), 0);
        Due.same("floe(5, 35, 60), the most of all", y.floe(5, 35, 60), 1);
    }

    private static void promise4Bad() {
        FrozenIn x = new FrozenIn();
        x.month(1);
        for (int kind : Due.outside(0, 5)) {
            Due.bad(x, "floe(" + kind + ", 0, 0)", () -> x.floe(kind, 0, 0));
        }
        for (int cell : Due.outside(0, 35)) {
            Due.bad(x, "floe(0, " + cell + ", 0)", () -> x.floe(0, cell, 0));
        }
        for (int food : Due.outside(0, 60)) {
            Due.bad(x, "floe(0, 0, " + food + ")", () -> x.floe(0, 0, food));
        }
        Due.same("undo() behind those refused", x.undo(), 0);
    }

    private static void promise4FullAt5() {
        FrozenIn x = new FrozenIn();
        for (int f = 0; f < 5; f++) {
            Due.same("floe(5, 35, 60)", x.floe(5, 35, 60), f);
        }
        x.month(1);
        Due.full(x, "floe(0, 0, 0), a sixth", () -> x.floe(0, 0, 0));
        Due.full(x, "floe(5, 35, 60), a sixth", () -> x.floe(5, 35, 60));
        Due.bad(x, "floe(6, 0, 0), a sixth", () -> x.floe(6, 0, 0));
        Due.same("undo() behind those refused", x.undo(), 0);
        Due.same("count(0)", x.count(0), 5);
    }

    // ---- the text

    private static void promise5BytesOf0To127() {
        FrozenIn x = new FrozenIn();
        for (int c = 0; c <= 127; c++) {
            Due.same("type(" + c + ")", x.type(c), c + 1);
        }
        FrozenIn y = new FrozenIn();
        Due.write(y, "sea 1");
        Due.same("type(;)", y.type(';'), 6);
        Due.same("read(): it came behind the text", y.read(), 1);
    }

    private static void promise5Bad() {
        FrozenIn x = new FrozenIn();
        Due.write(x, "sea 1;");
        for (int c : Due.outside(0, 127)) {
            Due.bad(x, "type(" + c + ")", () -> x.type(c));
        }
        Due.bad(x, "type(288), 32 and 256", () -> x.type(288));
        Due.same("read() behind those refused", x.read(), 1);
    }

    private static void promise5FullAt150() {
        FrozenIn x = new FrozenIn();
        Due.write(x, "sea 9;");
        for (int i = 7; i <= 150; i++) {
            Due.same("type(32)", x.type(32), i);
        }
        Due.full(x, "type(0), the 151st", () -> x.type(0));
        Due.full(x, "type(127), the 151st", () -> x.type(127));
        Due.bad(x, "type(128), the 151st", () -> x.type(128));
        Due.same("read() of 150 bytes", x.read(), 1);
    }

    private static void promise6EmptyAndFull() {
        FrozenIn x = new FrozenIn();
        Due.same("clear() of an empty one", x.clear(), 0);
        Due.write(x, "s");
        Due.same("clear() of one byte", x.clear(), 1);
        Due.same("count(6)", x.count(6), 0);
        Due.same("clear(), again", x.clear(), 0);
        Due.write(x, " ".repeat(150));
        Due.same("clear() of a full one", x.clear(), 150);
        Due.same("read() of one that was cleared", x.read(), -10);
        Due.same("type(32) behind clear()", x.type(32), 1);
        Due.same("status(0)", x.status(0) + x.status(1) + x.status(2), 0);
    }

    private static void promise7HowManyItems() {
        FrozenIn x = new FrozenIn();
        Due.same("read() of the fewest", Due.read(x, "sea 0;"), 1);
        Due.same("read() of five floes", Due.read(x, "sea 0;floe0 0 0;floe0 0 0;floe0 0 0;floe0 0 0;floe0 0 0;"), 6);
        StringBuilder most = new StringBuilder("sea0;");
        for (int i = 0; i < 14; i++) {
            most.append("wind").append(i % 10).append(" 0 0;");
        }
        FrozenIn y = new FrozenIn();
        Due.same("read() of the most winds", Due.read(y, most.toString()), 15);
        Due.same("count(6)", y.count(6), 145);
        Due.same("read(), again", y.read(), 15);
    }

    private static void promise7FaultOf0To150() {
        FrozenIn x = new FrozenIn();
        Due.same("read() with a fault at 0", Due.read(x, ";"), -10);
        Due.same("read() with a fault at 1", Due.read(x, " ;"), -11);
        FrozenIn y = new FrozenIn();
        Due.same("read() with a fault at 149", Due.read(y, " ".repeat(149) + ";"), -159);
        FrozenIn z = new FrozenIn();
        Due.same("read() with a fault at 150", Due.read(z, " ".repeat(150)), -160);
        Due.same("status of one that faults", z.status(0) + z.status(1) + z.status(2), 0);
    }

    private static void promise7AllStays() {
        FrozenIn x = new FrozenIn();
        x.sea(4);
        x.wind(1, 1, 1);
        x.floe(3, 3, 3);
        x.found(0, 1, 1);
        x.note(0, 0, 0, 0, 0, 0, 0);
        x.calms(0, 1, 3);
        x.month(3);
        Due.write(x, "sea 9;wind 1 2 3;floe 0 0 0;floe 0 0;");
        long ahead = x.digest();
        Due.same("read()", x.read(), -10 - 36);
        Due.same("digest() behind the fault", x.digest(), ahead);
        Due.same("whence(0) behind the fault", x.whence(0), 1);
        Due.same("undo() behind the fault", x.undo(), 4);
        Due.same("of(0, 1) behind the fault", x.of(0, 1), 3);
        Due.same("read(), again", x.read(), -10 - 36);
        Due.same("clear(): the text stays, too", x.clear(), 37);
    }

    // ---- months

    private static void promise8Of1To60() {
        FrozenIn x = new FrozenIn();
        Due.same("month(1)", x.month(1), 0);
        Due.same("count(1)", x.count(1), 1);
        Due.same("month(60)", x.month(60), 0);
        Due.same("count(1)", x.count(1), 61);
        Due.same("month(59)", x.month(59), 0);
        Due.same("count(1)", x.count(1), 120);
    }

    private static void promise8UndoneTogether() {
        FrozenIn x = new FrozenIn();
        x.floe(0, 0, 60);
        x.month(60);
        Due.same("count(5)", x.count(5), 1);
        x.month(3);
        Due.same("count(5)", x.count(5), 2);
        Due.same("undo() of three", x.undo(), 60);
        Due.same("undo() of 60", x.undo(), 0);
        Due.same("of(0, 1)", x.of(0, 1), 0);
        Due.same("of(0, 2)", x.of(0, 2), 60);
    }

    private static void promise8UndoneIfNoneGoesBy() {
        FrozenIn x = Due.inMonth(999);
        x.wind(0, 0, 1);
        Due.same("count(5)", x.count(5), 0);
        x.month(1);
        Due.same("count(5) behind none", x.count(5), 1);
        x.month(60);
        Due.same("count(5) behind none, twice", x.count(5), 2);
        Due.same("undo()", x.undo(), 999);
        Due.same("undo()", x.undo(), 999);
        Due.refused(x, "undo()", x::undo, NO, 1);
    }

    private static void promise8NoneGoesByAt999() {
        FrozenIn x = Due.inMonth(999);
        x.floe(0, 3, 60);
        Due.same("month(1) at 999", x.month(1), 0);
        Due.same("month(60) at 999", x.month(60), 0);
        Due.same("count(1)", x.count(1), 999);
        Due.same("of(0, 1)", x.of(0, 1), 3);
        Due.same("of(0, 2)", x.of(0, 2), 60);
        FrozenIn y = Due.inMonth(997);
        y.floe(0, 0, 60);
        y.month(60);
        Due.same("count(1) behind month(60) at 997", y.count(1), 999);
        Due.same("of(0, 1): two went by", y.of(0, 1), 2);
        Due.same("of(0, 2): two went by", y.of(0, 2), 58);
        Due.same("undo()", y.undo(), 997);
        Due.same("of(0, 1)", y.of(0, 1), 0);
    }

    private static void promise8HowManyAreOut() {
        FrozenIn x = new FrozenIn();
        Due.same("month(1) of none", x.month(1), 0);
        for (int column = 5; column >= 1; column--) {
            x.floe(0, column, 0);
        }
        for (int out = 2; out <= 5; out++) {
            Due.same("month(1)", x.month(1), out);
        }
        x.wind(5, 2, 1);
        Due.same("month(1), all back", x.month(1), 0);
    }

    private static void promise8Bad() {
        FrozenIn x = new FrozenIn();
        x.floe(0, 0, 9);
        for (int n : Due.outside(1, 60)) {
            Due.bad(x, "month(" + n + ")", () -> x.month(n));
        }
        Due.same("count(5)", x.count(5), 0);
    }

    // ---- food, moved, undone

    private static void promise9Of1To60() {
        FrozenIn x = new FrozenIn();
        x.floe(0, 0, 0);
        x.floe(0, 0, 0);
        Due.same("feed(0, 1)", x.feed(0, 1), 1);
        Due.same("feed(1, 60)", x.feed(1, 60), 60);
        Due.same("of(0, 2)", x.of(0, 2), 1);
        Due.same("of(1, 2)", x.of(1, 2), 60);
    }

    private static void promise9AtMost99() {
        FrozenIn x = new FrozenIn();
        x.floe(0, 0, 60);
        Due.same("feed(0, 38)", x.feed(0, 38), 98);
        Due.same("feed(0, 1)", x.feed(0, 1), 99);
        Due.same("feed(0, 1) at 99", x.feed(0, 1), 99);
        Due.same("feed(0, 60) at 99", x.feed(0, 60), 99);
        Due.same("of(0, 2)", x.of(0, 2), 99);
        Due.same("count(5): each may be undone", x.count(5), 4);
        FrozenIn y = new FrozenIn();
        y.floe(0, 0, 60);
        Due.same("feed(0, 60) at 60", y.feed(0, 60), 99);
        y.undo();
        Due.same("of(0, 2) undone", y.of(0, 2), 60);
        Due.same("feed(0, 39) at 60", y.feed(0, 39), 99);
    }

    private static void promise9Bad() {
        FrozenIn x = new FrozenIn();
        Due.bad(x, "feed(0, 1) of none", () -> x.feed(0, 1));
        x.floe(0, 0, 5);
        for (int f : Due.outside(0, 0)) {
            Due.bad(x, "feed(" + f + ", 1)", () -> x.feed(f, 1));
        }
        for (int n : Due.outside(1, 60)) {
            Due.bad(x, "feed(0, " + n + ")", () -> x.feed(0, n));
        }
        Due.same("count(5)", x.count(5), 0);
    }

    private static void promise10WhereItWas() {
        FrozenIn x = new FrozenIn();
        x.floe(0, 0, 5);
        x.floe(0, 35, 5);
        Due.same("moves(0, 35)", x.moves(0, 35), 0);
        Due.same("moves(0, 0)", x.moves(0, 0), 35);
        Due.same("moves(0, 0), where it is", x.moves(0, 0), 0);
        Due.same("of(1, 1)", x.of(1, 1), 35);
        Due.same("count(5): each may be undone", x.count(5), 3);
    }

    private static void promise10Bad() {
        FrozenIn x = new FrozenIn();
        Due.bad(x, "moves(0, 1) of none", () -> x.moves(0, 1));
        x.floe(0, 7, 5);
        for (int f : Due.outside(0, 0)) {
            Due.bad(x, "moves(" + f + ", 1)", () -> x.moves(f, 1));
        }
        for (int cell : Due.outside(0, 35)) {
            Due.bad(x, "moves(0, " + cell + ")", () -> x.moves(0, cell));
        }
        Due.same("count(5)", x.count(5), 0);
    }

    private static void promise11TheMonthThen() {
        FrozenIn x = Due.inMonth(990);
        x.floe(0, 0, 60);
        x.month(9);
        x.month(1);
        x.feed(0, 5);
        Due.same("undo() of the food", x.undo(), 999);
        Due.same("undo() of none that went by", x.undo(), 999);
        Due.same("undo() of nine", x.undo(), 990);
        Due.same("of(0, 1)", x.of(0, 1), 0);
        Due.same("of(0, 2)", x.of(0, 2), 60);
        FrozenIn y = new FrozenIn();
        y.month(1);
        Due.same("undo() of the first", y.undo(), 0);
    }

    private static void promise11No() {
        FrozenIn x = new FrozenIn();
        Due.refused(x, "undo() of none", x::undo, NO, 1);
        x.month(1);
        x.undo();
        Due.refused(x, "undo() of all undone", x::undo, NO, 1);
        x.month(1);
        x.sea(3);
        Due.refused(x, "undo() behind a sea", x::undo, NO, 1);
        Due.same("count(1)", x.count(1), 3);
    }

    private static void promise12LeastAndMost() {
        FrozenIn x = new FrozenIn();
        x.floe(0, 0, 0);
        x.floe(5, 35, 60);
        int[] most = {5, 35, 60, 1};
        for (int what = 0; what < 4; what++) {
            Due.same("of(0, " + what + ")", x.of(0, what), 0);
            Due.same("of(1, " + what + ")", x.of(1, what), most[what]);
        }
        x.moves(1, 34);
        Due.same("of(1, 3) in column 4", x.of(1, 3), 0);
        x.moves(0, 5);
        Due.same("of(0, 3) in column 5", x.of(0, 3), 1);
    }

    private static void promise12Bad() {
        FrozenIn x = new FrozenIn();
        Due.bad(x, "of(0, 0) of none", () -> x.of(0, 0));
        x.floe(0, 0, 0);
        for (int f : Due.outside(0, 0)) {
            Due.bad(x, "of(" + f + ", 0)", () -> x.of(f, 0));
        }
        for (int what : Due.outside(0, 3)) {
            Due.bad(x, "of(0, " + what + ")", () -> x.of(0, what));
        }
        Due.bad(x, "of(9, 9), once", () -> x.of(9, 9));
    }
}
