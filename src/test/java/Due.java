/** Collects answers that are not the one that is due; a test ends with end(). */
final class Due {
    private static int asDue = 0;
    private static int wrong = 0;

    private Due() {
    }

    /** The answer of a call, told by its promise and its text, is the one that is due. */
    static void same(int promise, String call, long got, long want) {
        if (got == want) {
            asDue++;
            return;
        }
        wrong++;
        System.out.println("promise " + promise + ": " + call + " answered " + got + ", due is " + want);
    }

    static void holds(String what, boolean so) {
        if (so) {
            asDue++;
            return;
        }
        wrong++;
        System.out.println("not so: " + what);
    }

    static void end() {
        System.out.println(asDue + " answers as due, " + wrong + " not");
        if (wrong != 0) {
            System.exit(1);
        }
    }

    /** All of the text comes behind THE TEXT. */
    static void write(FrozenIn x, String text) {
        for (int i = 0; i < text.length(); i++) {
            x.type(text.charAt(i));
        }
    }

    /** What read() answers of just this text. */
    static int read(FrozenIn x, String text) {
        x.clear();
        write(x, text);
        return x.read();
    }

    /** The same WIND in all MONTHS. */
    static void windAlways(FrozenIn x, int way, int strength) {
        for (int m = 0; m < 12; m++) {
            x.wind(m, way, strength);
        }
    }

    /** Numbers that no range of the document has, with those nearest to least .. most. */
    static int[] outside(int least, int most) {
        return new int[] {least - 1, most + 1, Integer.MIN_VALUE, Integer.MAX_VALUE};
    }
}
