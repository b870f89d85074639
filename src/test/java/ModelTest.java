import java.util.Arrays;
import java.util.Random;

/** Random runs, with numbers as told and not: the class answers as the model does. */
public final class ModelTest {
    private static final int RUNS = 800;
    /** Behind each of these the digest is asked too, so that one object answers the 512 calls it is promised for. */
    private static final int CALLS = 256;

    private static final int[] EXTREMES = {Integer.MIN_VALUE, Integer.MAX_VALUE, -2, -1, 128, 1000000};

    /** A call's name, how often it comes, and for each of its numbers the least and the most. */
    private static final String[] CALLS_TOLD = {
        "sea 1 0 99", "wind 12 0 11 0 3 0 3", "floe 12 0 5 0 35 0 60", "clear 1", "read 1",
        "month 12 1 60", "month 12 1 3", "feed 8 0 4 1 60", "moves 10 0 4 0 35", "undo 14", "of 5 0 4 0 3",
        "then 5 0 4 0 60", "out 5 0 4", "need 5 0 4", "enter 5 0 5 0 60", "nearest 8 0 4 0 4 0 1", "dogs 8 0 4 0 1",
        "found 3 0 5 1 60 0 35", "found 2 0 5 1 3 0 35", "whence 6 0 1", "note 8 0 4 0 99 0 3 0 3 0 5 0 3 0 2",
        "forget 3 0 1", "is 5 0 4", "waits 8 0 4", "leave 10 0 4 0 4 -1 8", "calms 6 0 4 0 8 0 10",
        "years 5 0 999999 0 60", "part 3 0 1", "image 3 0 1", "from 3 0 1", "status 3 0 2", "count 5 0 6", "digest 1"};

    private ModelTest() {
    }

    public static void main(String[] args) {
        int[] often = new int[CALLS_TOLD.length];
        int all = 0;
        for (int i = 0; i < often.length; i++) {
            all += Integer.parseInt(CALLS_TOLD[i].split(" ")[1]);
            often[i] = all;
        }
        for (int run = 0; run < RUNS; run++) {
            Random random = new Random(run);
            FrozenIn x = new FrozenIn();
            Model model = new Model();
            int calls = 0;
            while (calls < CALLS) {
                int pick = random.nextInt(all + 4);
                if (pick >= all) {
                    calls += tellText(run, x, model, random, CALLS - calls);
                    continue;
                }
                int which = 0;
                while (often[which] <= pick) {
                    which++;
                }
                String[] told = CALLS_TOLD[which].split(" ");
                both(run, x, model, told[0], numbers(told, random));
                calls++;
            }
        }
        Due.end();
    }

    private static int[] numbers(String[] told, Random random) {
        int[] a = new int[(told.length - 2) / 2];
        for (int i = 0; i < a.length; i++) {
            int least = Integer.parseInt(told[2 + 2 * i]);
            int most = Integer.parseInt(told[3 + 2 * i]);
            int chance = random.nextInt(100);
            if (chance == 0) {
                a[i] = EXTREMES[random.nextInt(EXTREMES.length)];
            } else if (chance == 1) {
                a[i] = random.nextBoolean() ? least - 1 : most + 1;
            } else {
                a[i] = least + random.nextInt(most - least + 1);
            }
        }
        return a;
    }

    /** A text that is mostly a sea, now and then with a byte changed, left out or put in. */
    private static int tellText(int run, FrozenIn x, Model model, Random random, int most) {
        StringBuilder text = new StringBuilder("sea " + random.nextInt(102) + ";");
        int items = random.nextInt(9);
        for (int i = 0; i < items; i++) {
            text.append(random.nextInt(4) == 0 ? " " : "");
            if (random.nextBoolean()) {
                text.append("wind " + random.nextInt(12) + " " + random.nextInt(4) + " " + random.nextInt(4));
            } else {
                text.append("floe" + random.nextInt(6) + "  " + random.nextInt(36) + " " + random.nextInt(61));
            }
            text.append(random.nextInt(6) == 0 ? " ; " : ";");
        }
        for (int i = random.nextInt(6) - 2; i > 0; i--) {
            int at = random.nextInt(text.length());
            char other = " ;0159aswf-\u007f".charAt(random.nextInt(12));
            switch (random.nextInt(3)) {
                case 0: text.setCharAt(at, other); break;
                case 1: text.deleteCharAt(at); break;
                default: text.insert(at, other); break;
            }
        }
        int calls = 0;
        if (most > 1 && random.nextInt(8) != 0) {
            both(run, x, model, "clear", new int[0]);
            calls++;
        }
        for (int i = 0; i < text.length() && calls < most - 1; i++, calls++) {
            both(run, x, model, "type", new int[] {text.charAt(i)});
        }
        both(run, x, model, "read", new int[0]);
        return calls + 1;
    }

    private static void both(int run, FrozenIn x, Model model, String name, int[] a) {
        String call = "run " + run + ": " + name + Arrays.toString(a);
        Due.same(0, call, call(x, name, a), model.call(name, a));
        Due.same(33, "digest() behind " + call, x.digest(), model.call("digest", new int[0]));
    }

    private static long call(FrozenIn x, String name, int[] a) {
        switch (name) {
            case "sea": return x.sea(a[0]);
            case "wind": return x.wind(a[0], a[1], a[2]);
            case "floe": return x.floe(a[0], a[1], a[2]);
            case "type": return x.type(a[0]);
            case "clear": return x.clear();
            case "read": return x.read();
            case "month": return x.month(a[0]);
            case "feed": return x.feed(a[0], a[1]);
            case "moves": return x.moves(a[0], a[1]);
            case "undo": return x.undo();
            case "of": return x.of(a[0], a[1]);
            case "then": return x.then(a[0], a[1]);
            case "out": return x.out(a[0]);
            case "need": return x.need(a[0]);
            case "enter": return x.enter(a[0], a[1]);
            case "nearest": return x.nearest(a[0], a[1], a[2]);
            case "dogs": return x.dogs(a[0], a[1]);
            case "found": return x.found(a[0], a[1], a[2]);
            case "whence": return x.whence(a[0]);
            case "note": return x.note(a[0], a[1], a[2], a[3], a[4], a[5], a[6]);
            case "forget": return x.forget(a[0]);
            case "is": return x.is(a[0]);
            case "waits": return x.waits(a[0]);
            case "leave": return x.leave(a[0], a[1], a[2]);
            case "calms": return x.calms(a[0], a[1], a[2]);
            case "years": return x.years(a[0], a[1]);
            case "part": return x.part(a[0]);
            case "image": return x.image(a[0]);
            case "from": return x.from(a[0]);
            case "status": return x.status(a[0]);
            case "count": return x.count(a[0]);
            case "digest": return x.digest();
            default: throw new IllegalArgumentException(name);
        }
    }
}
