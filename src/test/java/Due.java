import java.util.function.LongSupplier;

/** Collects answers that are not the one that is due; a test ends with end(). */
final class Due {
    private static int asDue = 0;
    private static int wrong = 0;

    private Due() {
    }

    /** The answer of a call, told by its promise and its text, is the one that is due. */
    static void same(int promise, String call, long got, long want) {
        same("promise " + promise + ": " + call, got, want);
    }

    static void same(String call, long got, long want) {
        if (got == want) {
            asDue++;
            return;
        }
        wrong++;
        System.out.println(call + " answered " + got + ", due is " + want);
    }

    /** The call is refused with this answer: STATUS counts it once as why (0 .. 2), nothing else is changed. */
    static void refused(FrozenIn x, String call, LongSupplier asked, long answer, int why) {
        long digest = x.digest();
        int[] status = {x.status(0), x.status(1), x.status(2)};
        same(call, asked.getAsLong(), answer);
        same("digest() behind " + call + ", refused,", x.digest(), digest);
        for (int what = 0; what < 3; what++) {
            same("status(" + what + ") behind " + call + ", refused,", x.status(what), status[what] + (what == why ? 1 : 0));
        }
    }

    static void bad(FrozenIn x, String call, LongSupplier asked) {
        refused(x, call, asked, FrozenIn.BAD, 0);
    }

    static void full(FrozenIn x, String call, LongSupplier asked) {
        refused(x, call, asked, FrozenIn.FULL, 2);
    }

    static void holds(String what, boolean so) {
        if (so) {
            asDue++;
            return;
        }
        wrong++;
        System.out.println("not so: " + what);
    }

    static int answersAsDue() {
        return asDue;
    }

    static int answersWrong() {
        return wrong;
    }

    static void end() {
        System.out.println(asDue + " answers as due, " + wrong + " not");
        if (wrong != 0) {
            System.exit(1);
        }
    }

    /** All of the text comes behind THE TEXT. */
    static void write(FrozenIn x, String text) {
        for (int i = 0; i < text.length(); i++) {
            x.type(text.charAt(i));
        }
    }

    /** What read() answers of just this text. */
    static int read(FrozenIn x, String text) {
        x.clear();
        write(x, text);
        return x.read();
    }

    /** The same WIND in all MONTHS. */
    static void windAlways(FrozenIn x, int way, int strength) {
        for (int m = 0; m < 12; m++) {
            x.wind(m, way, strength);
        }
    }

    /** A new sea with this WIND in all MONTHS and one FLOE without FOOD. */
    static FrozenIn alone(int kind, int cell, int way, int strength) {
        FrozenIn x = new FrozenIn();
        windAlways(x, way, strength);
        x.floe(kind, cell, 0);
        return x;
    }

    /** A new sea in this MONTH (0 .. 999), without FLOES. */
    static FrozenIn inMonth(int month) {
        FrozenIn x = new FrozenIn();
        x.sea(Math.min(month, 99));
        for (int now = x.count(1); now < month; now = x.count(1)) {
            x.month(Math.min(60, month - now));
        }
        return x;
    }

    /** As alone, in this MONTH. */
    static FrozenIn aloneInMonth(int month, int kind, int cell, int way, int strength) {
        FrozenIn x = inMonth(month);
        windAlways(x, way, strength);
        x.floe(kind, cell, 0);
        return x;
    }

    /** Numbers that no range of the document has, with those nearest to least .. most. */
    static int[] outside(int least, int most) {
        return new int[] {least - 1, most + 1, Integer.MIN_VALUE, Integer.MAX_VALUE};
    }
}
