import java.util.LinkedHashMap;
import java.util.Map;
import java.util.function.ToLongFunction;

/** What stands behind the two sections (the fraction, what is refused), ahead of the promises, and in the face. */
public final class RefusalEdgeTest {
    private static final int NONE = FrozenIn.NONE;
    private static final int LEAST = Integer.MIN_VALUE;
    private static final int MOST = Integer.MAX_VALUE;

    private RefusalEdgeTest() {
    }

    public static void main(String[] args) {
        Edges edges = new Edges();
        tell(edges);
        edges.run();
    }

    static void tell(Edges edges) {
        edges.in(Document.INTRODUCTION);
        edges.sentence("An object is used for at most 512 calls after it has been made; what later calls answer is free.",
                RefusalEdgeTest::the512thCallAnswersAsDue);
        edges.in(Document.FACE);
        edges.sentence("NONE = -1, BAD = -2, NO = -3, FULL = -4;", RefusalEdgeTest::constants);
        edges.in(Document.BEHIND);
        edges.sentence("THE FRACTION is 0 by 1 at first;", RefusalEdgeTest::fractionAtFirst);
        edges.sentence("lowest terms,", RefusalEdgeTest::fractionInLowestTerms);
        edges.sentence("below above 0.", RefusalEdgeTest::fractionBelowAbove0);
        edges.sentence("Refused, changing nothing but STATUS,", RefusalEdgeTest::refusedCallsChangeNothing);
        edges.sentence("the first of: BAD -2 a number is not as told; NO -3 as told; FULL -4", RefusalEdgeTest::badAheadOfNoAndFull);
        edges.sentence("BAD -2 a number is not as told;", RefusalEdgeTest::badOfAFloeThatIsNot);
        edges.sentence("NO -3 as told;", RefusalEdgeTest::noAsTold);
        edges.sentence("FULL -4", RefusalEdgeTest::fullAsTold);
        edges.sentence("(where others are told they count as these).", RefusalEdgeTest::othersCountAsThese);
    }

    private static void the512thCallAnswersAsDue() {
        FrozenIn x = new FrozenIn();
        x.floe(0, 0, 0);
        for (int i = 0; i < 255; i++) {
            Due.same("moves(0, " + i % 36 + ")", x.moves(0, i % 36), i == 0 ? 0 : (i - 1) % 36);
            Due.same("of(0, 4)", x.of(0, 4), FrozenIn.BAD);
        }
        Due.same("status(0), the 512th", x.status(0), 255);
    }

    private static void constants() {
        Due.same("NONE", FrozenIn.NONE, -1);
        Due.same("BAD", FrozenIn.BAD, -2);
        Due.same("NO", FrozenIn.NO, -3);
        Due.same("FULL", FrozenIn.FULL, -4);
    }

    // ---- the fraction

    private static void fractionAtFirst() {
        FrozenIn x = new FrozenIn();
        Due.same("part(0)", x.part(0), 0);
        Due.same("part(1)", x.part(1), 1);
    }

    private static void fractionInLowestTerms() {
        FrozenIn x = Due.alone(0, 4, 0, 1);
        long[] above = {1, 9, 4, 7, 3, 1, 2, 3, 1, 1, 0};
        long[] below = {1, 10, 5, 10, 5, 2, 5, 10, 5, 10, 1};
        for (int c = 0; c <= 10; c++) {
            x.calms(0, 1, c);
            Due.same("part(0) of calms(0, 1, " + c + ")", x.part(0), above[c]);
            Due.same("part(1) of calms(0, 1, " + c + ")", x.part(1), below[c]);
        }
        x.calms(0, 8, 9);
        Due.same("part(0) of calms(0, 8, 9)", x.part(0), 56953279);
        Due.same("part(1) of calms(0, 8, 9)", x.part(1), 100000000);
        x.calms(0, 8, 5);
        Due.same("part(0) of calms(0, 8, 5)", x.part(0), 255);
        Due.same("part(1) of calms(0, 8, 5)", x.part(1), 256);
    }

    private static void fractionBelowAbove0() {
        FrozenIn x = Due.alone(0, 3, 0, 1);
        for (int m = 0; m <= 8; m++) {
            for (int c = 0; c <= 10; c++) {
                x.calms(0, m, c);
                Due.holds("below is above 0, calms(0, " + m + ", " + c + ")", x.part(1) > 0);
                Due.holds("above is not below 0, nor more than all", x.part(0) >= 0 && x.part(0) <= x.part(1));
            }
        }
        x.moves(0, 0);
        x.calms(0, 4, 5);
        Due.same("part(0) of no chance", x.part(0), 0);
        Due.same("part(1) of no chance", x.part(1), 1);
    }

    // ---- refused

    /** A sea with five floes, full of FOUND and NOTES, with both of its images unlike, and a text to read. */
    private static FrozenIn sailing() {
        FrozenIn x = new FrozenIn();
        x.sea(9);
        x.wind(3, 1, 2);
        for (int f = 0; f < 5; f++) {
            x.floe(f, 7 * f, 10 * f);
        }
        for (int i = 1; i <= 4; i++) {
            x.found(i, 10 * i, 35 - i);
        }
        for (int i = 0; i < 6; i++) {
            x.note(i % 5, 9 * i, i % 4, 3 - i % 4, i, i % 4, i % 4);
        }
        x.calms(4, 1, 4);
        x.image(0);
        x.month(5);
        x.feed(1, 7);
        x.moves(2, 33);
        x.image(1);
        x.feed(2, 1);
        Due.write(x, "sea 42;floe 1 2 3;");
        return x;
    }

    /** All that may still be asked of a sea, by what is asked; the sea is used up by it. */
    private static Map<String, Long> allThatMayBeAsked(FrozenIn x) {
        Map<String, Long> all = new LinkedHashMap<>();
        all.put("digest()", x.digest());
        all.put("part(0)", x.part(0));
        all.put("part(1)", x.part(1));
        for (int i = 0; i < 4; i++) {
            all.put("undo() " + i, (long) x.undo());
            all.put("digest() behind undo() " + i, x.digest());
        }
        for (int i = 0; i < 2; i++) {
            all.put("from(" + i + ")", (long) x.from(i));
            all.put("digest() from " + i, x.digest());
            all.put("undo() from " + i, (long) x.undo());
            all.put("digest() behind undo() from " + i, x.digest());
        }
        all.put("read()", (long) x.read());
        all.put("digest() behind read()", x.digest());
        return all;
    }

    /** By the call's text: one that is refused, in the sea of sailing(), as BAD. */
    private static Map<String, ToLongFunction<FrozenIn>> badCalls() {
        Map<String, ToLongFunction<FrozenIn>> bad = new LinkedHashMap<>();
        bad.put("sea(100)", x -> x.sea(100));
        bad.put("sea(-1)", x -> x.sea(-1));
        bad.put("wind(12, 0, 0)", x -> x.wind(12, 0, 0));
        bad.put("wind(0, 4, 0)", x -> x.wind(0, 4, 0));
        bad.put("wind(0, 0, 4)", x -> x.wind(0, 0, 4));
        bad.put("floe(6, 0, 0)", x -> x.floe(6, 0, 0));
        bad.put("floe(0, 36, 0)", x -> x.floe(0, 36, 0));
        bad.put("floe(0, 0, 61)", x -> x.floe(0, 0, 61));
        bad.put("type(128)", x -> x.type(128));
        bad.put("type(-1)", x -> x.type(-1));
        bad.put("month(0)", x -> x.month(0));
        bad.put("month(61)", x -> x.month(61));
        bad.put("feed(5, 1)", x -> x.feed(5, 1));
        bad.put("feed(0, 0)", x -> x.feed(0, 0));
        bad.put("feed(0, 61)", x -> x.feed(0, 61));
        bad.put("moves(5, 0)", x -> x.moves(5, 0));
        bad.put("moves(0, 36)", x -> x.moves(0, 36));
        bad.put("of(5, 0)", x -> x.of(5, 0));
        bad.put("of(0, 4)", x -> x.of(0, 4));
        bad.put("then(5, 0)", x -> x.then(5, 0));
        bad.put("then(0, 61)", x -> x.then(0, 61));
        bad.put("out(5)", x -> x.out(5));
        bad.put("need(5)", x -> x.need(5));
        bad.put("enter(6, 0)", x -> x.enter(6, 0));
        bad.put("enter(0, 61)", x -> x.enter(0, 61));
        bad.put("nearest(5, 0, 0)", x -> x.nearest(5, 0, 0));
        bad.put("nearest(0, 5, 0)", x -> x.nearest(0, 5, 0));
        bad.put("nearest(0, 1, 2)", x -> x.nearest(0, 1, 2));
        bad.put("nearest(3, 3, 0)", x -> x.nearest(3, 3, 0));
        bad.put("dogs(5, 0)", x -> x.dogs(5, 0));
        bad.put("dogs(0, 2)", x -> x.dogs(0, 2));
        bad.put("found(6, 1, 0)", x -> x.found(6, 1, 0));
        bad.put("found(0, 0, 0)", x -> x.found(0, 0, 0));
        bad.put("found(0, 61, 0)", x -> x.found(0, 61, 0));
        bad.put("found(0, 1, 36)", x -> x.found(0, 1, 36));
        bad.put("whence(2)", x -> x.whence(2));
        bad.put("note(5, 0, 0, 0, 0, 0, 0)", x -> x.note(5, 0, 0, 0, 0, 0, 0));
        bad.put("note(0, 100, 0, 0, 0, 0, 0)", x -> x.note(0, 100, 0, 0, 0, 0, 0));
        bad.put("note(0, 0, 4, 0, 0, 0, 0)", x -> x.note(0, 0, 4, 0, 0, 0, 0));
        bad.put("note(0, 0, 0, 4, 0, 0, 0)", x -> x.note(0, 0, 0, 4, 0, 0, 0));
        bad.put("note(0, 0, 0, 0, 6, 0, 0)", x -> x.note(0, 0, 0, 0, 6, 0, 0));
        bad.put("note(0, 0, 0, 0, 0, 4, 0)", x -> x.note(0, 0, 0, 0, 0, 4, 0));
        bad.put("note(0, 0, 0, 0, 0, 0, 4)", x -> x.note(0, 0, 0, 0, 0, 0, 4));
        bad.put("forget(2)", x -> x.forget(2));
        bad.put("forget(-1)", x -> x.forget(-1));
        bad.put("is(5)", x -> x.is(5));
        bad.put("waits(5)", x -> x.waits(5));
        bad.put("calms(5, 0, 0)", x -> x.calms(5, 0, 0));
        bad.put("calms(4, 9, 0)", x -> x.calms(4, 9, 0));
        bad.put("calms(4, 0, 11)", x -> x.calms(4, 0, 11));
        bad.put("years(1000000, 0)", x -> x.years(1000000, 0));
        bad.put("years(0, 61)", x -> x.years(0, 61));
        bad.put("part(2)", x -> x.part(2));
        bad.put("image(2)", x -> x.image(2));
        bad.put("image(-1)", x -> x.image(-1));
        bad.put("from(2)", x -> x.from(2));
        bad.put("from(-1)", x -> x.from(-1));
        bad.put("count(7)", x -> x.count(7));
        return bad;
    }

    private static void unchangedBy(String call, ToLongFunction<FrozenIn> asked, long answer, int why) {
        FrozenIn x = sailing();
        Due.refused(x, call, () -> asked.applyAsLong(x), answer, why);
        Map<String, Long> due = allThatMayBeAsked(sailing());
        Map<String, Long> got = allThatMayBeAsked(x);
        for (String what : due.keySet()) {
            Due.same(what + " behind " + call + ", refused,", got.get(what), due.get(what));
        }
    }

    private static void refusedCallsChangeNothing() {
        Map<String, ToLongFunction<FrozenIn>> bad = badCalls();
        for (String call : bad.keySet()) {
            unchangedBy(call, bad.get(call), FrozenIn.BAD, 0);
        }
        unchangedBy("leave(0, 0, 0)", x -> x.leave(0, 0, 0), -10, 0);
        unchangedBy("leave(0, 1, -2)", x -> x.leave(0, 1, -2), -10, 0);
        unchangedBy("status(3)", x -> x.status(3), NONE, 0);
        unchangedBy("floe(0, 0, 0)", x -> x.floe(0, 0, 0), FrozenIn.FULL, 2);
        unchangedBy("found(0, 1, 0)", x -> x.found(0, 1, 0), FrozenIn.FULL, 2);
        unchangedBy("note(0, 0, 0, 0, 0, 0, 0)", x -> x.note(0, 0, 0, 0, 0, 0, 0), FrozenIn.FULL, 2);
    }

    private static void badAheadOfNoAndFull() {
        FrozenIn x = sailing();
        Due.bad(x, "floe(6, 0, 0), a sixth", () -> x.floe(6, 0, 0));
        Due.bad(x, "floe(0, 0, 61), a sixth", () -> x.floe(0, 0, 61));
        Due.bad(x, "found(0, 0, 0), a fifth", () -> x.found(0, 0, 0));
        Due.bad(x, "note(0, 100, 0, 0, 0, 0, 0), a seventh", () -> x.note(0, 100, 0, 0, 0, 0, 0));
        FrozenIn y = new FrozenIn();
        Due.bad(y, "from(2), none kept", () -> y.from(2));
        Due.bad(y, "from(-1), none kept", () -> y.from(-1));
        FrozenIn z = new FrozenIn();
        Due.write(z, " ".repeat(150));
        Due.bad(z, "type(128), the 151st", () -> z.type(128));
        Due.bad(z, "type(-1), the 151st", () -> z.type(-1));
    }

    private static void badOfAFloeThatIsNot() {
        FrozenIn x = Due.alone(0, 0, 0, 0);
        for (int f : new int[] {-1, 1, 4, 5, LEAST, MOST}) {
            Due.bad(x, "of(" + f + ", 0)", () -> x.of(f, 0));
            Due.bad(x, "then(" + f + ", 0)", () -> x.then(f, 0));
        }
        x.floe(0, 0, 0);
        Due.same("of(1, 0), now that it is", x.of(1, 0), 0);
        x.sea(0);
        Due.bad(x, "of(0, 0) of a sea begun anew", () -> x.of(0, 0));
    }

    private static void noAsTold() {
        FrozenIn x = new FrozenIn();
        Due.refused(x, "undo()", x::undo, FrozenIn.NO, 1);
        Due.refused(x, "from(0)", () -> x.from(0), FrozenIn.NO, 1);
        Due.refused(x, "from(1)", () -> x.from(1), FrozenIn.NO, 1);
        x.month(1);
        x.image(1);
        Due.same("undo()", x.undo(), 0);
        Due.same("from(1)", x.from(1), 1);
        Due.refused(x, "from(0)", () -> x.from(0), FrozenIn.NO, 1);
    }

    private static void fullAsTold() {
        FrozenIn x = sailing();
        Due.full(x, "floe(0, 0, 0), a sixth", () -> x.floe(0, 0, 0));
        Due.full(x, "found(0, 1, 0), a fifth", () -> x.found(0, 1, 0));
        Due.full(x, "note(0, 0, 0, 0, 0, 0, 0), a seventh", () -> x.note(0, 0, 0, 0, 0, 0, 0));
        Due.write(x, " ".repeat(150 - x.count(6)));
        Due.full(x, "type(32), the 151st", () -> x.type(32));
        x.sea(0);
        x.clear();
        Due.same("floe(0, 0, 0) of a sea begun anew", x.floe(0, 0, 0), 0);
        Due.same("found(0, 1, 0) of a sea begun anew", x.found(0, 1, 0), 1);
        Due.same("note(0, 0, 0, 0, 0, 0, 0) of a sea begun anew", x.note(0, 0, 0, 0, 0, 0, 0), 1);
        Due.same("type(32) of a text that was cleared", x.type(32), 1);
    }

    private static void othersCountAsThese() {
        FrozenIn x = sailing();
        Due.refused(x, "leave(5, 0, 0)", () -> x.leave(5, 0, 0), -10, 0);
        Due.refused(x, "leave(0, 5, 0)", () -> x.leave(0, 5, 0), -10, 0);
        Due.refused(x, "leave(2, 2, 0)", () -> x.leave(2, 2, 0), -10, 0);
        Due.refused(x, "leave(0, 1, -2)", () -> x.leave(0, 1, -2), -10, 0);
        Due.refused(x, "status(3)", () -> x.status(3), -1, 0);
        Due.refused(x, "status(-1)", () -> x.status(-1), -1, 0);
    }
}
