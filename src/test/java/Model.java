import java.math.BigInteger;
import java.util.ArrayDeque;
import java.util.ArrayList;
import java.util.Arrays;
import java.util.HashSet;
import java.util.List;
import java.util.Set;
import java.util.regex.Matcher;
import java.util.regex.Pattern;

/**
 * The document once more, as slowly and plainly as it can be told, and in other ways than the class:
 * floes go step by step, dogs search all cells, chances are sums over all sets of calms.
 */
final class Model {
    private static final int[] ROW_STEP = {0, 1, 0, -1};
    private static final int[] COLUMN_STEP = {1, 0, -1, 0};
    private static final Pattern TOKEN = Pattern.compile("[a-z]+|[0-9]+|[^ ]", Pattern.DOTALL);

    /** All that an image keeps. */
    private static final class State {
        int month = 0;
        int[][] winds = new int[12][];
        List<int[]> floes = new ArrayList<>();
        List<int[]> founds = new ArrayList<>();
        List<int[]> notes = new ArrayList<>();
        ArrayDeque<State> past = new ArrayDeque<>();

        State() {
            for (int m = 0; m < 12; m++) {
                winds[m] = new int[] {0, 1};
            }
        }

        State copy() {
            State other = new State();
            other.month = month;
            for (int m = 0; m < 12; m++) {
                other.winds[m] = winds[m].clone();
            }
            for (int[] floe : floes) {
                other.floes.add(floe.clone());
            }
            other.founds.addAll(founds);
            other.notes.addAll(notes);
            other.past.addAll(past);
            return other;
        }
    }

    private State state = new State();
    private final State[] images = new State[2];
    private final StringBuilder text = new StringBuilder();
    private BigInteger above = BigInteger.ZERO;
    private BigInteger below = BigInteger.ONE;
    private final int[] refused = new int[3];

    /** The answer of a call, by its name. */
    long call(String name, int[] a) {
        switch (name) {
            case "sea": return sea(a[0]);
            case "wind": return wind(a[0], a[1], a[2]);
            case "floe": return floe(a[0], a[1], a[2]);
            case "type": return type(a[0]);
            case "clear": return clear();
            case "read": return read();
            case "month": return month(a[0]);
            case "feed": return feed(a[0], a[1]);
            case "moves": return moves(a[0], a[1]);
            case "undo": return undo();
            case "of": return of(a[0], a[1]);
            case "then": return bad(a[0], floes(), a[1], 61) ? refuse(0) : cellBehind(a[0], a[1]);
            case "out": return bad(a[0], floes()) ? refuse(0) : outOf(a[0]);
            case "need": return need(a[0]);
            case "enter": return enter(a[0], a[1]);
            case "nearest": return nearest(a[0], a[1], a[2]);
            case "dogs": return dogs(a[0], a[1]);
            case "found": return found(a[0], a[1], a[2]);
            case "whence": return whence(a[0]);
            case "note": return note(a);
            case "forget": return forget(a[0]);
            case "is": return bad(a[0], floes()) ? refuse(0) : kinds(a[0]);
            case "waits": return waits(a[0]);
            case "leave": return leave(a[0], a[1], a[2]);
            case "calms": return calms(a[0], a[1], a[2]);
            case "years": return years(a[0], a[1]);
            case "part": return bad(a[0], 2) ? refuse(0) : (a[0] == 0 ? above : below).longValueExact();
            case "image": return image(a[0]);
            case "from": return from(a[0]);
            case "status": return status(a[0]);
            case "count": return count(a[0]);
            case "digest": return digest();
            default: throw new IllegalArgumentException(name);
        }
    }

    private int floes() {
        return state.floes.size();
    }

    /** Pairs of a number and how many numbers from 0 on there are for it. */
    private static boolean bad(int... numbersAndHowMany) {
        for (int i = 0; i < numbersAndHowMany.length; i += 2) {
            if (numbersAndHowMany[i] < 0 || numbersAndHowMany[i] >= numbersAndHowMany[i + 1]) {
                return true;
            }
        }
        return false;
    }

    private int refuse(int why) {
        refused[why]++;
        return -2 - why;
    }

    // ---- the kinds: {way, cells}

    private static int[] drift(int kind, int m, int w, int s, int c) {
        int[] under;
        switch (kind) {
            case 0:
                return new int[] {w, Math.min(1, s)};
            case 1:
                under = drift(0, m, w, s, c);
                return new int[] {under[0], s < 3 ? under[1] : under[1] + 1};
            case 2:
                under = drift(0, m, w, s, c);
                return new int[] {(under[0] + (m & 1)) & 3, under[1]};
            case 3:
                under = drift(0, m, w, s, c);
                return new int[] {under[0], c < 2 && s < 2 ? 0 : under[1]};
            case 4:
                under = drift(2, m, w, s, c);
                return new int[] {m % 3 == 0 ? under[0] ^ 2 : under[0], under[1]};
            default:
                under = drift(1, m, w, s, c);
                return new int[] {under[0], c > 2 && under[1] > 0 ? under[1] - 1 : under[1]};
        }
    }

    private static int step(int kind, int cell, int m, int w, int s) {
        int[] drift = drift(kind, m, w, s, cell % 6);
        int row = cell / 6;
        int column = cell % 6;
        for (int i = 0; i < drift[1]; i++) {
            int nextRow = row + ROW_STEP[drift[0]];
            int nextColumn = column + COLUMN_STEP[drift[0]];
            if (!bad(nextRow, 6, nextColumn, 6)) {
                row = nextRow;
                column = nextColumn;
            }
        }
        return 6 * row + column;
    }

    private int behind(int kind, int cell, int firstMonth, int months) {
        if (months == 0) {
            return cell;
        }
        int last = firstMonth + months - 1;
        int[] wind = state.winds[last % 12];
        return step(kind, behind(kind, cell, firstMonth, months - 1), last, wind[0], wind[1]);
    }

    private int cellBehind(int f, int months) {
        int[] floe = state.floes.get(f);
        return behind(floe[0], floe[1], state.month, months);
    }

    private static int far(int a, int b) {
        return Math.abs(a / 6 - b / 6) + Math.abs(a % 6 - b % 6);
    }

    // ---- a sea

    private int sea(int month) {
        if (bad(month, 100)) {
            return refuse(0);
        }
        int were = floes();
        state = new State();
        state.month = month;
        return were;
    }

    private int wind(int m, int way, int strength) {
        if (bad(m, 12, way, 4, strength, 4)) {
            return refuse(0);
        }
        int[] ahead = state.winds[m];
        state.winds[m] = new int[] {way, strength};
        state.past.clear();
        return 10 * ahead[0] + ahead[1];
    }

    private int floe(int kind, int cell, int food) {
        if (bad(kind, 6, cell, 36, food, 61)) {
            return refuse(0);
        }
        if (floes() == 5) {
            return refuse(2);
        }
        state.floes.add(new int[] {kind, cell, food});
        state.past.clear();
        return floes() - 1;
    }

    private int type(int c) {
        if (bad(c, 128)) {
            return refuse(0);
        }
        if (text.length() == 150) {
            return refuse(2);
        }
        text.append((char) c);
        return text.length();
    }

    private int clear() {
        int were = text.length();
        text.setLength(0);
        return were;
    }

    private int read() {
        List<String> tokens = new ArrayList<>();
        List<Integer> places = new ArrayList<>();
        Matcher matcher = TOKEN.matcher(text);
        while (matcher.find()) {
            tokens.add(matcher.group());
            places.add(matcher.start());
        }
        State told = new State();
        int items = 0;
        int at = 0;
        while (items == 0 || at < tokens.size()) {
            String word = at < tokens.size() ? tokens.get(at) : "";
            int[] howMany;
            if (items == 0 && word.equals("sea")) {
                howMany = new int[] {100};
            } else if (items > 0 && word.equals("wind")) {
                howMany = new int[] {12, 4, 4};
            } else if (items > 0 && word.equals("floe") && told.floes.size() < 5) {
                howMany = new int[] {6, 36, 61};
            } else {
                return fault(places, at);
            }
            at++;
            int[] numbers = new int[howMany.length];
            for (int i = 0; i < howMany.length; i++, at++) {
                if (at >= tokens.size() || !tokens.get(at).matches("[0-9]{1,2}")) {
                    return fault(places, at);
                }
                numbers[i] = Integer.parseInt(tokens.get(at));
                if (numbers[i] >= howMany[i]) {
                    return fault(places, at);
                }
            }
            if (at >= tokens.size() || !tokens.get(at).equals(";")) {
                return fault(places, at);
            }
            at++;
            items++;
            if (word.equals("sea")) {
                told.month = numbers[0];
            } else if (word.equals("wind")) {
                told.winds[numbers[0]] = new int[] {numbers[1], numbers[2]};
            } else {
                told.floes.add(numbers);
            }
        }
        state = told;
        return items;
    }

    private int fault(List<Integer> places, int at) {
        return -10 - (at < places.size() ? places.get(at) : text.length());
    }

    // ---- months

    private void remember() {
        State saved = state.copy();
        saved.past.clear();
        state.past.addLast(saved);
        if (state.past.size() > 8) {
            state.past.removeFirst();
        }
    }

    private int month(int n) {
        if (bad(n - 1, 60)) {
            return refuse(0);
        }
        remember();
        for (int i = 0; i < n && state.month < 999; i++) {
            int[] wind = state.winds[state.month % 12];
            for (int[] floe : state.floes) {
                floe[1] = step(floe[0], floe[1], state.month, wind[0], wind[1]);
                floe[2] -= floe[2] > 0 ? 1 : 0;
            }
            state.month++;
        }
        return outNow();
    }

    private int outNow() {
        int out = 0;
        for (int[] floe : state.floes) {
            out += floe[1] % 6 / 5;
        }
        return out;
    }

    private int feed(int f, int n) {
        if (bad(f, floes(), n - 1, 60)) {
            return refuse(0);
        }
        remember();
        int[] floe = state.floes.get(f);
        floe[2] = floe[2] + n > 99 ? 99 : floe[2] + n;
        return floe[2];
    }

    private int moves(int f, int cell) {
        if (bad(f, floes(), cell, 36)) {
            return refuse(0);
        }
        remember();
        int was = state.floes.get(f)[1];
        state.floes.get(f)[1] = cell;
        return was;
    }

    private int undo() {
        if (state.past.isEmpty()) {
            return refuse(1);
        }
        State ahead = state.past.removeLast();
        state.month = ahead.month;
        state.floes = new ArrayList<>();
        for (int[] floe : ahead.floes) {
            state.floes.add(floe.clone());
        }
        return state.month;
    }

    private int of(int f, int what) {
        if (bad(f, floes(), what, 4)) {
            return refuse(0);
        }
        int[] floe = state.floes.get(f);
        return what == 3 ? (floe[1] % 6 == 5 ? 1 : 0) : floe[what];
    }

    // ---- where it drifts

    private int firstOut(int kind, int cell) {
        for (int m = 0; m <= 60; m++) {
            if (behind(kind, cell, state.month, m) % 6 == 5) {
                return m;
            }
        }
        return -1;
    }

    private int outOf(int f) {
        int[] floe = state.floes.get(f);
        return firstOut(floe[0], floe[1]);
    }

    private int need(int f) {
        if (bad(f, floes())) {
            return refuse(0);
        }
        int months = outOf(f);
        if (months < 0) {
            return -1;
        }
        for (int more = 0; ; more++) {
            boolean enough = true;
            int food = state.floes.get(f)[2] + more;
            for (int m = 0; m < months; m++, food--) {
                enough &= food >= 1;
            }
            if (enough) {
                return more;
            }
        }
    }

    private int enter(int kind, int n) {
        if (bad(kind, 6, n, 61)) {
            return refuse(0);
        }
        int rows = 0;
        for (int row = 0; row < 6; row++) {
            int months = firstOut(kind, 6 * row);
            rows += months >= 0 && months <= n ? 1 << row : 0;
        }
        return rows;
    }

    private int nearest(int a, int b, int what) {
        if (bad(a, floes(), b, floes(), what, 2) || a == b) {
            return refuse(0);
        }
        int[] far = new int[61];
        for (int m = 0; m <= 60; m++) {
            far[m] = far(cellBehind(a, m), cellBehind(b, m));
        }
        int least = Arrays.stream(far).min().getAsInt();
        for (int m = 0; m <= 60; m++) {
            if (far[m] == least) {
                return what == 0 ? m : least;
            }
        }
        throw new IllegalStateException();
    }

    private int dogs(int f, int what) {
        if (bad(f, floes(), what, 2)) {
            return refuse(0);
        }
        Set<Integer> unseen = new HashSet<>(List.of(state.floes.get(f)[1]));
        Set<Integer> seen = new HashSet<>();
        int atPole = -1;
        for (int m = 1; m <= 30; m++) {
            unseen = within2(unseen);
            seen = within2(seen);
            if (unseen.contains(14)) {
                seen.add(14);
                atPole = atPole < 0 ? m : atPole;
            }
            if (seen.contains(cellBehind(f, m))) {
                return what == 0 ? m : atPole;
            }
        }
        return -1;
    }

    private static Set<Integer> within2(Set<Integer> cells) {
        Set<Integer> wider = new HashSet<>();
        for (int cell : cells) {
            for (int other = 0; other < 36; other++) {
                if (far(cell, other) <= 2) {
                    wider.add(other);
                }
            }
        }
        return wider;
    }

    // ---- from where

    private int found(int kind, int m, int cell) {
        if (bad(kind, 6, m - 1, 60, cell, 36)) {
            return refuse(0);
        }
        if (state.founds.size() == 4) {
            return refuse(2);
        }
        state.founds.add(new int[] {kind, m, cell});
        return state.founds.size();
    }

    private int whence(int what) {
        if (bad(what, 2)) {
            return refuse(0);
        }
        List<Integer> fitting = new ArrayList<>();
        for (int cell = 0; cell < 36; cell++) {
            boolean fits = true;
            for (int[] one : state.founds) {
                fits &= behind(one[0], cell, 0, one[1]) == one[2];
            }
            if (fits) {
                fitting.add(cell);
            }
        }
        return what == 0 ? fitting.size() : fitting.isEmpty() ? -1 : fitting.get(0);
    }

    private int note(int[] a) {
        if (bad(a[0], floes(), a[1], 100, a[2], 4, a[3], 4, a[4], 6, a[5], 4, a[6], 4)) {
            return refuse(0);
        }
        if (state.notes.size() == 6) {
            return refuse(2);
        }
        state.notes.add(a.clone());
        return state.notes.size();
    }

    private int forget(int what) {
        if (bad(what, 2)) {
            return refuse(0);
        }
        List<int[]> which = what == 0 ? state.founds : state.notes;
        int were = which.size();
        which.clear();
        return were;
    }

    private int kinds(int f) {
        int bits = 63;
        for (int[] note : state.notes) {
            for (int kind = 0; kind < 6 && note[0] == f; kind++) {
                int[] drift = drift(kind, note[1], note[2], note[3], note[4]);
                boolean so = drift[1] == note[6] && (drift[0] == note[5] || drift[1] == 0);
                bits &= so ? 63 : ~(1 << kind);
            }
        }
        return bits;
    }

    private int waits(int f) {
        if (bad(f, floes())) {
            return refuse(0);
        }
        int bits = kinds(f);
        int first = -1;
        int fewest = 7;
        for (int i = 0; i < 24 && bits != 0; i++) {
            int m = state.month + i;
            List<String> tracks = new ArrayList<>();
            for (int kind = 0; kind < 6; kind++) {
                if ((bits & 1 << kind) != 0) {
                    int[] drift = drift(kind, m, state.winds[m % 12][0], state.winds[m % 12][1], state.floes.get(f)[1] % 6);
                    tracks.add(drift[1] == 0 ? "none" : Arrays.toString(drift));
                }
            }
            int most = 0;
            for (String track : tracks) {
                most = Math.max(most, java.util.Collections.frequency(tracks, track));
            }
            if (most < fewest) {
                fewest = most;
                first = i;
            }
        }
        return first;
    }

    private int gain(int a, int b, int i, int j) {
        int food = state.floes.get(b)[2];
        for (int m = 0; m < i; m++) {
            food = food == 0 ? 0 : food - 1;
        }
        return food - far(cellBehind(a, i), cellBehind(b, i)) - (i == j ? 5 : 0);
    }

    private int leave(int a, int b, int k) {
        if (bad(a, floes(), b, floes()) || a == b || k < -1) {
            refused[0]++;
            return -10;
        }
        List<Integer> resting = new ArrayList<>();
        for (int pair = 0; pair < 36; pair++) {
            boolean rests = true;
            for (int other = 0; other < 6; other++) {
                rests &= gain(a, b, other, pair % 6) <= gain(a, b, pair / 6, pair % 6);
                rests &= gain(b, a, other, pair / 6) <= gain(b, a, pair % 6, pair / 6);
            }
            if (rests) {
                resting.add(pair);
            }
        }
        return k == -1 ? resting.size() : k < resting.size() ? resting.get(k) : -5;
    }

    private int calms(int f, int m, int c) {
        if (bad(f, floes(), m, 9, c, 11)) {
            return refuse(0);
        }
        BigInteger sum = BigInteger.ZERO;
        for (int set = 0; set < 1 << m; set++) {
            int cell = state.floes.get(f)[1];
            BigInteger odds = BigInteger.ONE;
            for (int i = 0; i < m; i++) {
                int[] wind = state.winds[(state.month + i) % 12];
                boolean calm = (set >> i & 1) == 1;
                odds = odds.multiply(BigInteger.valueOf(calm ? c : 10 - c));
                cell = step(state.floes.get(f)[0], cell, state.month + i, wind[0], calm ? 0 : wind[1]);
            }
            if (cell % 6 == 5) {
                sum = sum.add(odds);
            }
        }
        BigInteger all = BigInteger.TEN.pow(m);
        BigInteger common = sum.gcd(all);
        above = sum.divide(common);
        below = all.divide(common);
        return 1;
    }

    private int years(int seed, int n) {
        if (bad(seed, 1000000, n, 61)) {
            return refuse(0);
        }
        int out = 0;
        for (int[] floe : state.floes) {
            BigInteger x = BigInteger.valueOf(seed);
            int cell = floe[1];
            for (int i = 0; i < n; i++) {
                x = x.multiply(BigInteger.valueOf(1103515245)).add(BigInteger.valueOf(12345)).mod(BigInteger.TWO.pow(31));
                cell = step(floe[0], cell, state.month + i, x.shiftRight(16).intValue() & 3, x.shiftRight(20).intValue() & 3);
            }
            out += cell % 6 == 5 ? 1 : 0;
        }
        return out;
    }

    // ---- what there is

    private int image(int i) {
        if (bad(i, 2)) {
            return refuse(0);
        }
        images[i] = state.copy();
        return 1;
    }

    private int from(int i) {
        if (bad(i, 2)) {
            return refuse(0);
        }
        if (images[i] == null) {
            return refuse(1);
        }
        state = images[i].copy();
        return 1;
    }

    private int status(int what) {
        if (bad(what, 3)) {
            refused[0]++;
            return -1;
        }
        return refused[what];
    }

    private int count(int what) {
        if (bad(what, 7)) {
            return refuse(0);
        }
        return new int[] {floes(), state.month, outNow(), state.founds.size(), state.notes.size(),
            state.past.size(), text.length()}[what];
    }

    private long digest() {
        List<Long> values = new ArrayList<>();
        for (int what = 0; what <= 6; what++) {
            values.add((long) count(what));
        }
        List<int[]> rows = new ArrayList<>(Arrays.asList(state.winds));
        rows.addAll(state.floes);
        rows.addAll(state.founds);
        rows.addAll(state.notes);
        for (int[] row : rows) {
            for (int value : row) {
                values.add((long) value);
            }
        }
        values.add(above.longValueExact());
        values.add(below.longValueExact());
        BigInteger h = BigInteger.valueOf(1427);
        for (long value : values) {
            h = h.multiply(BigInteger.valueOf(31)).add(BigInteger.valueOf(value));
        }
        return h.longValue();
    }
}
