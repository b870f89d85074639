/** Promises 28 to 33: the fraction, images, what was refused, counts, the digest. */
public final class StateTest {
    private StateTest() {
    }

    public static void main(String[] args) {
        fraction();
        images();
        imagesKeepTheirOwn();
        imagesOutliveSeas();
        imagesLeaveWhatIsNotTheirs();
        imagesRefused();
        refusals();
        answersThatAreNoRefusals();
        counts();
        countRefused();
        digestByTheDocument();
        digestTellsAllApart();
        Due.end();
    }

    private static void fraction() {
        FrozenIn x = new FrozenIn();
        x.floe(0, 4, 0);
        x.calms(0, 1, 2);
        Due.same(28, "part(0)", x.part(0), 4);
        Due.same(28, "part(1)", x.part(1), 5);
        for (int what : Due.outside(0, 1)) {
            Due.same(28, "part(" + what + ")", x.part(what), FrozenIn.BAD);
        }
        Due.same(28, "status(0)", x.status(0), 4);
        x.calms(0, 1, 10);
        Due.same(28, "part(0) of no chance", x.part(0), 0);
        Due.same(28, "part(1) of no chance", x.part(1), 1);
    }

    private static FrozenIn sailing() {
        FrozenIn x = new FrozenIn();
        x.sea(9);
        x.wind(3, 1, 2);
        x.floe(1, 20, 30);
        x.floe(4, 3, 1);
        x.found(2, 3, 4);
        x.note(1, 2, 3, 0, 5, 3, 1);
        x.month(4);
        x.feed(1, 7);
        return x;
    }

    private static void images() {
        FrozenIn x = sailing();
        long first = x.digest();
        Due.same(29, "image(0)", x.image(0), 1);
        Due.same(29, "digest() behind image(0)", x.digest(), first);
        x.moves(0, 0);
        x.month(3);
        long second = x.digest();
        Due.same(29, "image(1)", x.image(1), 1);
        x.undo();
        x.undo();
        x.undo();
        x.wind(0, 3, 3);
        x.floe(0, 0, 0);
        x.forget(0);
        x.forget(1);
        Due.same(30, "from(0)", x.from(0), 1);
        Due.same(30, "digest() from the first", x.digest(), first);
        Due.same(30, "undo(): what may be undone it keeps", x.undo(), 13);
        Due.same(30, "undo()", x.undo(), 9);
        Due.same(30, "undo()", x.undo(), FrozenIn.NO);
        Due.same(30, "from(1)", x.from(1), 1);
        Due.same(30, "digest() from the second", x.digest(), second);
        x.undo();
        x.undo();
        Due.same(30, "digest(), back at the first", x.digest(), first);
        x.month(50);
        Due.same(30, "from(0), once more", x.from(0), 1);
        Due.same(30, "digest(), once more", x.digest(), first);
        x.sea(1);
        x.image(0);
        Due.same(29, "image(0) anew", x.from(0), 1);
        Due.same(29, "count(1)", x.count(1), 1);
    }

    /** What is told or undone behind an image does not come into it. */
    private static void imagesKeepTheirOwn() {
        FrozenIn x = sailing();
        x.image(0);
        long[] digests = new long[3];
        for (int i = 0; i < 3; i++) {
            digests[i] = x.digest();
            x.undo();
        }
        x.forget(0);
        x.forget(1);
        x.found(5, 6, 7);
        x.note(0, 9, 1, 1, 1, 1, 1);
        x.moves(0, 33);
        x.feed(0, 2);
        x.month(7);
        x.from(0);
        for (int i = 0; i < 3; i++) {
            Due.same(30, "digest() from the image, undone " + i, x.digest(), digests[i]);
            x.undo();
        }
        FrozenIn y = new FrozenIn();
        y.floe(0, 0, 0);
        for (int i = 0; i < 4; i++) {
            y.found(i, 1 + i, 35);
        }
        for (int i = 0; i < 6; i++) {
            y.note(0, i, 3, 3, 5, 3, 2);
        }
        for (int i = 0; i < 8; i++) {
            y.feed(0, 10);
        }
        long full = y.digest();
        y.image(1);
        y.sea(0);
        y.from(1);
        Due.same(30, "digest() from an image of all there can be", y.digest(), full);
        for (int i = 7; i >= 0; i--) {
            y.undo();
            Due.same(30, "of(0, 2) undone from it", y.of(0, 2), 10 * i);
        }
    }

    private static void imagesOutliveSeas() {
        FrozenIn x = sailing();
        long first = x.digest();
        x.image(0);
        x.sea(0);
        x.from(0);
        Due.same(30, "digest() behind a sea", x.digest(), first);
        Due.read(x, "sea 0;");
        x.clear();
        x.from(0);
        Due.same(30, "digest() behind a sea read", x.digest(), first);
        FrozenIn y = new FrozenIn();
        y.image(1);
        y.floe(0, 0, 0);
        y.from(1);
        Due.same(30, "digest() of a new one", y.digest(), new FrozenIn().digest());
    }

    private static void imagesLeaveWhatIsNotTheirs() {
        FrozenIn x = sailing();
        x.image(0);
        x.moves(0, 4);
        x.calms(0, 1, 5);
        Due.write(x, "sea");
        x.type(-1);
        long above = x.part(0);
        x.image(1);
        x.from(0);
        Due.same(30, "part(0)", x.part(0), above);
        Due.same(30, "part(1)", x.part(1), 2);
        Due.same(30, "count(6)", x.count(6), 3);
        Due.same(30, "status(0)", x.status(0), 1);
        Due.same(30, "from(1): images keep no images", x.from(1), 1);
        Due.same(30, "of(0, 1)", x.of(0, 1), 4);
    }

    private static void imagesRefused() {
        FrozenIn x = sailing();
        long before = x.digest();
        for (int i : Due.outside(0, 1)) {
            Due.same(29, "image(" + i + ")", x.image(i), FrozenIn.BAD);
            Due.same(30, "from(" + i + ")", x.from(i), FrozenIn.BAD);
        }
        Due.same(30, "from(0): none was kept", x.from(0), FrozenIn.NO);
        x.image(0);
        Due.same(30, "from(1): none was kept", x.from(1), FrozenIn.NO);
        Due.same(30, "digest()", x.digest(), before);
        Due.same(31, "status(0)", x.status(0), 8);
        Due.same(31, "status(1)", x.status(1), 2);
    }

    private static void refusals() {
        FrozenIn x = new FrozenIn();
        Due.same(31, "status(3)", x.status(3), -1);
        Due.same(31, "status(-1)", x.status(-1), -1);
        Due.same(31, "status(most)", x.status(Integer.MAX_VALUE), -1);
        Due.same(31, "status(least)", x.status(Integer.MIN_VALUE), -1);
        Due.same(31, "status(0)", x.status(0), 4);
        x.leave(0, 0, 0);
        Due.same(31, "status(0): -10 of leave is BAD", x.status(0), 5);
        x.undo();
        x.from(0);
        Due.same(31, "status(1)", x.status(1), 2);
        for (int i = 0; i < 7; i++) {
            x.floe(0, 0, 0);
            x.found(0, 1, 1);
            x.note(0, 0, 0, 0, 0, 0, 0);
        }
        Due.same(31, "status(2)", x.status(2), 2 + 3 + 1);
        Due.same(31, "status(0)", x.status(0), 5);
        Due.same(31, "status(1)", x.status(1), 2);
    }

    private static void answersThatAreNoRefusals() {
        FrozenIn x = new FrozenIn();
        Due.windAlways(x, 0, 0);
        x.floe(0, 0, 0);
        x.floe(0, 1, 0);
        x.note(0, 0, 0, 0, 0, 0, 1);
        x.found(0, 1, 1);
        x.found(0, 1, 2);
        Due.same(31, "out(0)", x.out(0), FrozenIn.NONE);
        Due.same(31, "need(0)", x.need(0), FrozenIn.NONE);
        Due.same(31, "whence(1)", x.whence(1), FrozenIn.NONE);
        Due.same(31, "waits(0)", x.waits(0), FrozenIn.NONE);
        Due.same(31, "leave(0, 1, 36)", x.leave(0, 1, 36), -5);
        Due.same(31, "read()", x.read(), -10);
        for (int what = 0; what < 3; what++) {
            Due.same(31, "status(" + what + ")", x.status(what), 0);
        }
    }

    private static void counts() {
        FrozenIn x = sailing();
        x.floe(0, 35, 0);
        x.floe(0, 11, 0);
        x.month(1);
        x.month(1);
        x.found(0, 1, 2);
        x.note(0, 0, 0, 0, 0, 0, 0);
        x.note(0, 0, 0, 0, 0, 0, 0);
        Due.write(x, "floe");
        int[] due = {4, 15, 3, 2, 3, 2, 4};
        for (int what = 0; what <= 6; what++) {
            Due.same(32, "count(" + what + ")", x.count(what), due[what]);
        }
    }

    private static void countRefused() {
        FrozenIn x = new FrozenIn();
        for (int what : Due.outside(0, 6)) {
            Due.same(32, "count(" + what + ")", x.count(what), FrozenIn.BAD);
        }
        Due.same(32, "status(0)", x.status(0), 4);
    }

    private static void digestByTheDocument() {
        FrozenIn x = sailing();
        x.floe(0, 5, 0);
        x.calms(2, 0, 0);
        Due.write(x, "sea");
        // By WAY 0, STRENGTH 1 in MONTHS 9 .. 12, LEAD goes 20, 21, 22, 23, 23; BACK 3, 3, 4, 10, 9.
        int[] values = {
            3, 13, 2, 1, 1, 0, 3,
            0, 1, 0, 1, 0, 1, 1, 2, 0, 1, 0, 1, 0, 1, 0, 1, 0, 1, 0, 1, 0, 1, 0, 1,
            1, 23, 26, 4, 9, 7, 0, 5, 0,
            2, 3, 4,
            1, 2, 3, 0, 5, 3, 1,
            1, 1};
        long h = 1427;
        for (int value : values) {
            h = 31 * h + value;
        }
        Due.same(33, "digest()", x.digest(), h);
        Due.same(33, "digest(), again", x.digest(), h);
        x.status(9);
        x.image(1);
        Due.same(33, "digest(): without what was refused, and images", x.digest(), h);
    }

    private static void digestTellsAllApart() {
        long[] digests = new long[12];
        for (int i = 0; i < 12; i++) {
            FrozenIn x = sailing();
            switch (i) {
                case 1: x.wind(11, 1, 1); break;
                case 2: x.moves(0, 1); break;
                case 3: x.feed(0, 1); break;
                case 4: x.found(0, 1, 0); break;
                case 5: x.note(0, 0, 0, 0, 0, 0, 0); break;
                case 6: x.calms(0, 1, 0); break;
                case 7: x.type(0); break;
                case 8: x.undo(); break;
                case 9: x.month(1); break;
                case 10: x.floe(0, 0, 0); break;
                case 11: x.moves(0, x.of(0, 1)); break;
                default: break;
            }
            digests[i] = x.digest();
            for (int j = 0; j < i; j++) {
                Due.holds("promise 33: digests " + i + " and " + j + " are unlike", digests[i] != digests[j]);
            }
        }
    }
}
