/** Promises 1 to 7: a new object, and how a sea is told. */
public final class SeaTest {
    private SeaTest() {
    }

    public static void main(String[] args) {
        newObject();
        newObjectsDigest();
        seaBegins();
        seaLeavesWhatIsNotItsOwn();
        seaRefused();
        windTold();
        windRefused();
        floesCome();
        floesRefused();
        typed();
        typedFull();
        cleared();
        readWhole();
        readTakesTheSeasPlace();
        readWithBlanks();
        readFaultsAtWords();
        readFaultsAtNumbers();
        readFaultsAtOtherBytes();
        readThatEndsTooEarly();
        readEndsWhereTheTextEnds();
        readFaultChangesNothing();
        Due.end();
    }

    private static void newObject() {
        FrozenIn x = new FrozenIn();
        for (int what = 0; what <= 6; what++) {
            Due.same(1, "count(" + what + ") of a new one", x.count(what), 0);
        }
        Due.same(1, "part(0) of a new one", x.part(0), 0);
        Due.same(1, "part(1) of a new one", x.part(1), 1);
        for (int what = 0; what <= 2; what++) {
            Due.same(1, "status(" + what + ") of a new one", x.status(what), 0);
        }
        Due.same(1, "undo() of a new one", x.undo(), FrozenIn.NO);
        Due.same(1, "from(0) of a new one", x.from(0), FrozenIn.NO);
        Due.same(1, "from(1) of a new one", x.from(1), FrozenIn.NO);
        Due.same(1, "of(0, 0) of a new one", x.of(0, 0), FrozenIn.BAD);
        for (int m = 0; m < 12; m++) {
            Due.same(1, "wind(" + m + ", 0, 1) of a new one", x.wind(m, 0, 1), 1);
        }
        Due.same(1, "NONE", FrozenIn.NONE, -1);
        Due.same(1, "BAD", FrozenIn.BAD, -2);
        Due.same(1, "NO", FrozenIn.NO, -3);
        Due.same(1, "FULL", FrozenIn.FULL, -4);
    }

    private static void newObjectsDigest() {
        long h = 1427;
        for (int i = 0; i < 7; i++) {
            h = 31 * h;
        }
        for (int m = 0; m < 12; m++) {
            h = 31 * 31 * h + 1;
        }
        Due.same(1, "digest() of a new one", new FrozenIn().digest(), 31 * 31 * h + 1);
    }

    private static void seaBegins() {
        FrozenIn x = new FrozenIn();
        x.wind(3, 2, 3);
        x.floe(0, 7, 9);
        x.floe(5, 35, 60);
        x.found(0, 1, 0);
        x.note(1, 2, 3, 1, 0, 3, 1);
        x.month(1);
        Due.same(2, "sea(7)", x.sea(7), 2);
        int[] counts = {0, 7, 0, 0, 0, 0, 0};
        for (int what = 0; what <= 6; what++) {
            Due.same(2, "count(" + what + ") behind sea(7)", x.count(what), counts[what]);
        }
        Due.same(2, "wind(3, 0, 1) behind sea(7)", x.wind(3, 0, 1), 1);
        Due.same(2, "undo() behind sea(7)", x.undo(), FrozenIn.NO);
        Due.same(2, "sea(0)", x.sea(0), 0);
        Due.same(2, "sea(99)", x.sea(99), 0);
        Due.same(2, "count(1) behind sea(99)", x.count(1), 99);
    }

    private static void seaLeavesWhatIsNotItsOwn() {
        FrozenIn x = new FrozenIn();
        x.floe(0, 4, 9);
        x.image(1);
        x.calms(0, 1, 3);
        Due.write(x, "sea");
        x.sea(100);
        x.undo();
        x.sea(5);
        Due.same(2, "part(0) behind sea(5)", x.part(0), 7);
        Due.same(2, "part(1) behind sea(5)", x.part(1), 10);
        Due.same(2, "count(6) behind sea(5)", x.count(6), 3);
        Due.same(2, "status(0) behind sea(5)", x.status(0), 1);
        Due.same(2, "status(1) behind sea(5)", x.status(1), 1);
        Due.same(2, "from(0) behind sea(5)", x.from(0), FrozenIn.NO);
        Due.same(2, "from(1) behind sea(5)", x.from(1), 1);
        Due.same(2, "of(0, 1) from the image", x.of(0, 1), 4);
    }

    private static void seaRefused() {
        FrozenIn x = new FrozenIn();
        x.floe(0, 4, 9);
        int refused = 0;
        for (int month : Due.outside(0, 99)) {
            long before = x.digest();
            Due.same(2, "sea(" + month + ")", x.sea(month), FrozenIn.BAD);
            Due.same(2, "digest() behind sea(" + month + ")", x.digest(), before);
            Due.same(2, "status(0)", x.status(0), ++refused);
        }
    }

    private static void windTold() {
        FrozenIn x = new FrozenIn();
        Due.same(3, "wind(0, 3, 2)", x.wind(0, 3, 2), 1);
        Due.same(3, "wind(0, 0, 0)", x.wind(0, 0, 0), 32);
        Due.same(3, "wind(0, 1, 3)", x.wind(0, 1, 3), 0);
        Due.same(3, "wind(11, 1, 3)", x.wind(11, 1, 3), 1);
        Due.same(3, "wind(11, 1, 3)", x.wind(11, 1, 3), 13);
        x.sea(23);
        x.wind(11, 1, 1);
        x.floe(0, 14, 0);
        x.month(1);
        Due.same(3, "of(0, 1): MONTH 23 has the wind of 11", x.of(0, 1), 20);
        Due.same(3, "count(5) ahead of a wind", x.count(5), 1);
        x.wind(5, 0, 1);
        Due.same(3, "count(5) behind a wind told as it was", x.count(5), 0);
    }

    private static void windRefused() {
        FrozenIn x = new FrozenIn();
        x.month(1);
        long before = x.digest();
        for (int m : Due.outside(0, 11)) {
            Due.same(3, "wind(" + m + ", 0, 0)", x.wind(m, 0, 0), FrozenIn.BAD);
        }
        for (int number : Due.outside(0, 3)) {
            Due.same(3, "wind(0, " + number + ", 0)", x.wind(0, number, 0), FrozenIn.BAD);
            Due.same(3, "wind(0, 0, " + number + ")", x.wind(0, 0, number), FrozenIn.BAD);
        }
        Due.same(3, "digest() behind winds refused", x.digest(), before);
        Due.same(3, "status(0)", x.status(0), 12);
        Due.same(3, "wind(0, 0, 1)", x.wind(0, 0, 1), 1);
    }

    private static void floesCome() {
        FrozenIn x = new FrozenIn();
        x.month(1);
        Due.same(4, "floe(0, 0, 0)", x.floe(0, 0, 0), 0);
        Due.same(4, "count(5) behind a floe", x.count(5), 0);
        Due.same(4, "floe(5, 35, 60)", x.floe(5, 35, 60), 1);
        Due.same(4, "floe(1, 2, 3)", x.floe(1, 2, 3), 2);
        Due.same(4, "floe(1, 2, 3)", x.floe(1, 2, 3), 3);
        Due.same(4, "floe(4, 5, 6)", x.floe(4, 5, 6), 4);
        Due.same(4, "count(0)", x.count(0), 5);
        int[][] told = {{0, 0, 0, 0}, {5, 35, 60, 1}, {1, 2, 3, 0}, {1, 2, 3, 0}, {4, 5, 6, 1}};
        for (int f = 0; f < 5; f++) {
            for (int what = 0; what < 4; what++) {
                Due.same(4, "of(" + f + ", " + what + ")", x.of(f, what), told[f][what]);
            }
        }
    }

    private static void floesRefused() {
        FrozenIn x = new FrozenIn();
        for (int kind : Due.outside(0, 5)) {
            Due.same(4, "floe(" + kind + ", 0, 0)", x.floe(kind, 0, 0), FrozenIn.BAD);
        }
        for (int cell : Due.outside(0, 35)) {
            Due.same(4, "floe(0, " + cell + ", 0)", x.floe(0, cell, 0), FrozenIn.BAD);
        }
        for (int food : Due.outside(0, 60)) {
            Due.same(4, "floe(0, 0, " + food + ")", x.floe(0, 0, food), FrozenIn.BAD);
        }
        Due.same(4, "count(0) behind floes refused", x.count(0), 0);
        for (int i = 0; i < 5; i++) {
            x.floe(0, i, 0);
        }
        x.month(1);
        long before = x.digest();
        Due.same(4, "a sixth floe", x.floe(0, 0, 0), FrozenIn.FULL);
        Due.same(4, "a sixth floe that is bad", x.floe(6, 0, 0), FrozenIn.BAD);
        Due.same(4, "digest() behind a sixth", x.digest(), before);
        Due.same(4, "status(0)", x.status(0), 13);
        Due.same(4, "status(2)", x.status(2), 1);
    }

    private static void typed() {
        FrozenIn x = new FrozenIn();
        Due.same(5, "type(0)", x.type(0), 1);
        Due.same(5, "type(127)", x.type(127), 2);
        for (int c : Due.outside(0, 127)) {
            Due.same(5, "type(" + c + ")", x.type(c), FrozenIn.BAD);
        }
        Due.same(5, "count(6)", x.count(6), 2);
        Due.same(5, "status(0)", x.status(0), 4);
    }

    private static void typedFull() {
        FrozenIn x = new FrozenIn();
        Due.write(x, "sea 9;");
        for (int i = 7; i <= 150; i++) {
            Due.same(5, "type(32)", x.type(32), i);
        }
        Due.same(5, "type(32), the 151st", x.type(32), FrozenIn.FULL);
        Due.same(5, "type(128), the 151st", x.type(128), FrozenIn.BAD);
        Due.same(5, "count(6)", x.count(6), 150);
        Due.same(5, "status(2)", x.status(2), 1);
        Due.same(5, "read() of 150 bytes", x.read(), 1);
        Due.same(5, "count(1)", x.count(1), 9);
    }

    private static void cleared() {
        FrozenIn x = new FrozenIn();
        Due.same(6, "clear()", x.clear(), 0);
        Due.write(x, "sea 1");
        Due.same(6, "clear()", x.clear(), 5);
        Due.same(6, "clear()", x.clear(), 0);
        Due.same(6, "count(6)", x.count(6), 0);
        Due.same(6, "read()", x.read(), -10);
        Due.same(6, "type(115)", x.type(115), 1);
    }

    private static void readWhole() {
        FrozenIn x = new FrozenIn();
        Due.same(7, "read() of a month", Due.read(x, "sea 99;"), 1);
        Due.same(7, "count(1)", x.count(1), 99);
        Due.same(7, "read()", Due.read(x, "sea 5;wind 11 3 2;floe 5 35 60;wind 0 1 0;floe 0 0 0;wind 11 2 3;"), 6);
        Due.same(7, "count(1)", x.count(1), 5);
        Due.same(7, "count(0)", x.count(0), 2);
        Due.same(7, "of(0, 0)", x.of(0, 0), 5);
        Due.same(7, "of(0, 1)", x.of(0, 1), 35);
        Due.same(7, "of(0, 2)", x.of(0, 2), 60);
        Due.same(7, "of(1, 0)", x.of(1, 0), 0);
        Due.same(7, "of(1, 1)", x.of(1, 1), 0);
        Due.same(7, "of(1, 2)", x.of(1, 2), 0);
        Due.same(7, "the wind of 0", x.wind(0, 0, 0), 10);
        Due.same(7, "the wind of 11, told twice", x.wind(11, 0, 0), 23);
        Due.same(7, "the wind of 1, not told", x.wind(1, 0, 0), 1);
    }

    private static void readTakesTheSeasPlace() {
        FrozenIn x = new FrozenIn();
        x.floe(0, 4, 1);
        x.floe(1, 4, 1);
        x.wind(4, 3, 3);
        x.found(0, 1, 1);
        x.note(0, 0, 0, 0, 0, 0, 0);
        x.calms(0, 1, 5);
        x.image(0);
        x.month(2);
        x.wind(40, 0, 0);
        Due.same(7, "read()", Due.read(x, "sea 3;floe 2 8 9;"), 2);
        int[] counts = {1, 3, 0, 0, 0, 0, 17};
        for (int what = 0; what <= 6; what++) {
            Due.same(7, "count(" + what + ") behind read()", x.count(what), counts[what]);
        }
        Due.same(7, "the wind of 4", x.wind(4, 0, 1), 1);
        Due.same(7, "part(0)", x.part(0), 1);
        Due.same(7, "part(1)", x.part(1), 2);
        Due.same(7, "status(0)", x.status(0), 1);
        Due.same(7, "undo()", x.undo(), FrozenIn.NO);
        Due.same(7, "from(0)", x.from(0), 1);
        Due.same(7, "count(0)", x.count(0), 2);
        Due.same(7, "count(3)", x.count(3), 1);
        Due.same(7, "count(4)", x.count(4), 1);
        Due.same(7, "count(6)", x.count(6), 17);
    }

    private static void readWithBlanks() {
        FrozenIn x = new FrozenIn();
        Due.same(7, "read() of blanks everywhere", Due.read(x, "   sea   12  ;  floe 1  02   3 ;   "), 2);
        Due.same(7, "count(1)", x.count(1), 12);
        Due.same(7, "of(0, 1)", x.of(0, 1), 2);
        Due.same(7, "read() of as few as may be", Due.read(x, "sea07;wind5 1 2;floe0 1 2;"), 3);
        Due.same(7, "count(1)", x.count(1), 7);
        Due.same(7, "the wind of 5", x.wind(5, 0, 0), 12);
        Due.same(7, "read() of numbers with a 0 ahead", Due.read(x, "sea 00;wind 01 02 03;"), 2);
        Due.same(7, "the wind of 1", x.wind(1, 0, 0), 23);
    }

    private static void fault(String text, int place) {
        FrozenIn x = new FrozenIn();
        Due.same(7, "read() of «" + text + "»", Due.read(x, text), -10 - place);
        Due.same(7, "status(0) behind read()", x.status(0) + x.status(1) + x.status(2), 0);
    }

    private static void readFaultsAtWords() {
        fault("ocean 5;", 0);
        fault("  ocean 5;", 2);
        fault("seas 5;", 0);
        fault("se", 0);
        fault("se a 5;", 0);
        fault("Sea 5;", 0);
        fault("wind 1 2 3;sea 5;", 0);
        fault(" floe 1 2 3;", 1);
        fault("sea 5;sea 6;", 6);
        fault("sea 5;wind 1 2 3; sea 5;", 18);
        fault("sea sea 5;", 4);
        fault("sea 5;windy 1 2 3;", 6);
        fault("sea 5;windfloe", 6);
        fault("sea 5;flo", 6);
        fault("sea 5 wind 1 2 3;", 6);
        fault("sea 5;wind 1 floe", 13);
        String five = "sea 5;floe0 0 0;floe0 0 0;floe0 0 0;floe0 0 0;floe0 0 0;";
        Due.same(7, "read() of five floes", Due.read(new FrozenIn(), five), 6);
        fault(five + " floe 0 0 0;", 57);
        fault(five + "floe", 56);
        fault(five + "wind 0 0 0;;", 67);
    }

    private static void readFaultsAtNumbers() {
        fault("sea 100;", 4);
        fault("sea  000;", 5);
        fault("sea 5 6;", 6);
        fault("5 sea;", 0);
        fault("sea 5;7;", 6);
        fault("sea 5;wind 12 0 0;", 11);
        fault("sea 5;wind 11 4 0;", 14);
        fault("sea 5;wind 11 3 4;", 16);
        fault("sea 5;wind 11 3 3 3;", 18);
        fault("sea 5;wind 1133;", 11);
        fault("sea 5;floe 6 0 0;", 11);
        fault("sea 5;floe 5 36 0;", 13);
        fault("sea 5;floe 5 35 61;", 16);
        fault("sea 5;floe 5 35 60 0;", 19);
        fault("sea 5;wind 12", 11);
        fault("sea 5;floe 0 0 99999999999999999999;", 15);
    }

    private static void readFaultsAtOtherBytes() {
        fault(";", 0);
        fault("sea;", 3);
        fault("sea 5;;", 6);
        fault("sea 5;wind 1 2;", 14);
        fault("sea -5;", 4);
        fault("sea 5.", 5);
        fault("sea\t5;", 3);
        fault("seaX 5;", 3);
        fault("sea 5;" + (char) 127, 6);
        fault("sea 5; " + (char) 0, 7);
        fault("sea 5;`", 6);
        fault("sea 5;{", 6);
        fault("sea /", 4);
        fault("sea :", 4);
    }

    private static void readThatEndsTooEarly() {
        fault("", 0);
        fault("   ", 3);
        fault("sea", 3);
        fault("sea ", 4);
        fault("sea 5", 5);
        fault("sea 5   ", 8);
        fault("sea 5;wind", 10);
        fault("sea 5;wind 1", 12);
        fault("sea 5;wind 1 2", 14);
        fault("sea 5;wind 1 2 3", 16);
        fault("sea 5;floe 1 2 ", 15);
    }

    /** What a longer text held before, and what would stand behind the last byte, is not read. */
    private static void readEndsWhereTheTextEnds() {
        FrozenIn x = new FrozenIn();
        Due.same(7, "read()", Due.read(x, "sea 12;wind 1 2 3;"), 2);
        Due.same(7, "read() of «sea 12»", Due.read(x, "sea 12"), -16);
        Due.same(7, "read() of «sea 1»", Due.read(x, "sea 1"), -15);
        Due.same(7, "read() of «se»", Due.read(x, "se"), -10);
        Due.read(x, "sea 5;            ");
        Due.same(7, "read() of «sea 5 »", Due.read(x, "sea 5 "), -16);
        String[] ends = {"sea 5", "sea 5;wind", "sea 5;7", "sea", "sea 5;wind 1", ""};
        int[] due = {-160, -160, -159, -160, -160, -160};
        for (int i = 0; i < ends.length; i++) {
            String text = " ".repeat(150 - ends[i].length()) + ends[i];
            Due.same(7, "read() of 150 bytes that end with «" + ends[i] + "»", Due.read(new FrozenIn(), text), due[i]);
        }
    }

    private static void readFaultChangesNothing() {
        FrozenIn x = new FrozenIn();
        x.sea(4);
        x.wind(1, 1, 1);
        x.floe(3, 3, 3);
        x.found(0, 1, 1);
        x.note(0, 0, 0, 0, 0, 0, 0);
        x.month(3);
        x.clear();
        Due.write(x, "sea 9;wind 1 2 3;floe 0 0 0;floe 0 0;");
        long before = x.digest();
        Due.same(7, "read()", x.read(), -46);
        Due.same(7, "digest() behind a fault", x.digest(), before);
        Due.same(7, "undo() behind a fault", x.undo(), 4);
        Due.same(7, "the wind of 1", x.wind(1, 0, 0), 11);
    }
}
