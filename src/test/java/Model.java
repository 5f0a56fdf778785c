import java.math.BigInteger;
import java.util.ArrayList;
import java.util.List;
import java.util.regex.Matcher;
import java.util.regex.Pattern;

/**
 * The document once more, told another way: roots are found, spans are looked for one by one, texts are judged by a
 * regular expression, sheets are real arrays on which the machine itself throws. Slow, and only for tests.
 */
final class Model {
    private static final String TERM = "(?:[1-9]?s[2-4]?|[1-9])";
    private static final String TERMS = "-?" + TERM + "(?:[+-]" + TERM + ")*";
    private static final Pattern TEXT = Pattern.compile(TERMS + "(?:;" + TERMS + ")?");
    private static final Pattern ONE_TERM = Pattern.compile("([1-9]?)(s?)([2-4]?)");

    private record Told(List<Integer> p, List<Integer> q, int gain, int draw) {
    }

    private record Image(Told told, List<Told> past) {
    }

    private Told now = new Told(List.of(1, 1, 0, 0, 0), List.of(1, 0, 0, 0, 0), 0, 1);
    private List<Told> past = new ArrayList<>();
    private Image image = null;
    private String tape = "";
    private final Object[] sheets = new Object[4];

    private static boolean out(long v, long least, long most) {
        return v < least || v > most;
    }

    private void keep() {
        past.add(now);
        if (past.size() > 6) {
            past.remove(0);
        }
    }

    private List<Integer> poly(int which) {
        return which == 0 ? now.p : now.q;
    }

    private Told with(int which, int k, int v, int draw) {
        List<Integer> p = new ArrayList<>(now.p);
        List<Integer> q = new ArrayList<>(now.q);
        (which == 0 ? p : q).set(k, v);
        return new Told(p, q, now.gain, draw);
    }

    private static int degree(List<Integer> parts) {
        for (int k = 4; k >= 0; k--) {
            if (parts.get(k) != 0) {
                return k;
            }
        }
        return -4;
    }

    private long[] loop(int gain) {
        long[] loop = new long[5];
        for (int k = 0; k < 5; k++) {
            loop[k] = 8L * now.p.get(k) + (long) gain * now.q.get(k);
        }
        return loop;
    }

    int part(int which, int k, int v) {
        if (out(which, 0, 1) || out(k, 0, 4) || out(v, -9, 9)) {
            return -1;
        }
        int was = poly(which).get(k);
        if (was == v) {
            return -2;
        }
        keep();
        now = with(which, k, v, now.draw);
        return was + 9;
    }

    int gain(int v) {
        if (out(v, -800, 800)) {
            return -1;
        }
        int was = now.gain;
        if (was == v) {
            return -2;
        }
        keep();
        now = new Told(now.p, now.q, v, now.draw);
        return was + 800;
    }

    int told(int which, int k) {
        return out(which, 0, 1) || out(k, 0, 4) ? -1 : poly(which).get(k) + 9;
    }

    int count(int what) {
        List<Integer> loop = new ArrayList<>();
        for (long v : loop(now.gain)) {
            loop.add((int) v);
        }
        return switch (what) {
            case 0 -> now.gain + 800;
            case 1 -> degree(now.p);
            case 2 -> degree(now.q);
            case 3 -> degree(loop);
            case 4 -> past.size();
            default -> -1;
        };
    }

    int roots(int by, int what) {
        return at(by, now.gain, what);
    }

    int at(int by, int v, int what) {
        if (out(by, 0, 1) || out(v, -800, 800) || out(what, 0, 3)) {
            return -1;
        }
        int[] found = Oracle.roots(by, loop(v));
        if (found == null) {
            return -4;
        }
        return what < 3 ? found[what] : found[0] + found[1] == 0 ? 1 : 0;
    }

    /** The rows as fractions: above, below; made whole only at the end. */
    private List<BigInteger[]> allRows() {
        long[] loop = loop(now.gain);
        int d = 4;
        while (d >= 0 && loop[d] == 0) {
            d--;
        }
        List<BigInteger[]> rows = new ArrayList<>();
        if (d < 0) {
            return rows;
        }
        BigInteger[] first = zeros();
        BigInteger[] second = zeros();
        for (int k = d; k >= 0; k--) {
            ((d - k) % 2 == 0 ? first : second)[k] = BigInteger.valueOf(loop[k]);
        }
        rows.add(first);
        BigInteger[] next = second;
        while (top(next) >= 0) {
            rows.add(next);
            next = remainder(rows.get(rows.size() - 2), next);
        }
        return rows;
    }

    private static BigInteger[] zeros() {
        BigInteger[] zeros = new BigInteger[5];
        java.util.Arrays.fill(zeros, BigInteger.ZERO);
        return zeros;
    }

    private static int top(BigInteger[] p) {
        int k = 4;
        while (k >= 0 && p[k].signum() == 0) {
            k--;
        }
        return k;
    }

    private static BigInteger[] remainder(BigInteger[] a, BigInteger[] b) {
        BigInteger[] r = a.clone();
        BigInteger stretched = BigInteger.ONE;
        int low = top(b);
        while (top(r) >= low) {
            int high = top(r);
            BigInteger times = r[high];
            for (int j = 0; j < 5; j++) {
                r[j] = r[j].multiply(b[low]);
            }
            stretched = stretched.multiply(b[low]);
            for (int j = 0; j <= low; j++) {
                r[high - low + j] = r[high - low + j].subtract(times.multiply(b[j]));
            }
        }
        BigInteger common = BigInteger.ZERO;
        for (BigInteger v : r) {
            common = common.gcd(v);
        }
        if (stretched.signum() < 0) {
            common = common.negate();
        }
        for (int j = 0; j < 5 && common.signum() != 0; j++) {
            r[j] = r[j].divide(common);
        }
        return r;
    }

    long row(int i, int k, int what) {
        if (i < 0 || out(k, 0, 4) || out(what, 0, 1)) {
            return -1;
        }
        List<BigInteger[]> rows = allRows();
        if (i >= rows.size()) {
            return -4;
        }
        BigInteger v = rows.get(i)[k];
        return what == 0 ? v.abs().longValueExact() : v.signum() < 0 ? 2 : v.signum();
    }

    int rows() {
        return allRows().size();
    }

    private List<int[]> allSpans(int by) {
        List<int[]> spans = new ArrayList<>();
        int[] open = null;
        for (int v = -800; v <= 800; v++) {
            if (!Oracle.steady(by, loop(v))) {
                open = null;
            } else if (open == null) {
                open = new int[] {v, v};
                spans.add(open);
            } else {
                open[1] = v;
            }
        }
        return spans;
    }

    int span(int by, int k, int what) {
        if (out(by, 0, 1) || k < 0 || out(what, 0, 1)) {
            return -1;
        }
        List<int[]> spans = allSpans(by);
        return k < spans.size() ? spans.get(k)[what] + 800 : -4;
    }

    int widest(int by, int k, int what) {
        if (out(by, 0, 1) || k < 0 || out(what, 0, 1)) {
            return -1;
        }
        List<int[]> spans = allSpans(by);
        spans.sort((a, b) -> a[1] - a[0] != b[1] - b[0] ? b[1] - b[0] - a[1] + a[0] : a[0] - b[0]);
        return k < spans.size() ? spans.get(k)[what] + 800 : -4;
    }

    int spans(int by, int what) {
        if (out(by, 0, 1) || out(what, 0, 1)) {
            return -1;
        }
        List<int[]> spans = allSpans(by);
        return what == 0 ? spans.size() : spans.stream().mapToInt(s -> s[1] - s[0] + 1).sum();
    }

    int corners(int r) {
        if (out(r, 0, 9)) {
            return -1;
        }
        int steady = 0;
        for (String sides : List.of("LLUUL", "UULLU", "LUULL", "ULLUU")) {
            long[] p = new long[5];
            for (int k = 0; k < 5; k++) {
                p[k] = now.p.get(k) + (sides.charAt(k) == 'L' ? -r : r);
            }
            steady += Oracle.steady(0, p) ? 1 : 0;
        }
        return steady;
    }

    int neighbours(int by) {
        if (out(by, 0, 1)) {
            return -1;
        }
        return neighboursFrom(by, new long[5], 0);
    }

    private int neighboursFrom(int by, long[] p, int k) {
        if (k == 5) {
            return Oracle.steady(by, p) ? 1 : 0;
        }
        int steady = 0;
        for (int more = -1; more <= 1; more++) {
            p[k] = now.p.get(k) + more;
            steady += neighboursFrom(by, p, k + 1);
        }
        return steady;
    }

    int off(int c, int what) {
        if (out(c, 0, 10) || out(what, 0, 1)) {
            return -1;
        }
        BigInteger above = BigInteger.valueOf(offFrom(c, new long[5], 0));
        BigInteger below = BigInteger.valueOf(100000);
        BigInteger common = above.gcd(below);
        return (what == 0 ? above : below).divide(common).intValueExact();
    }

    private int offFrom(int c, long[] p, int k) {
        if (k == 5) {
            return Oracle.steady(0, p) ? 1 : 0;
        }
        p[k] = now.p.get(k);
        int odds = (10 - c) * offFrom(c, p, k + 1);
        p[k] = now.p.get(k) + 1;
        return odds + c * offFrom(c, p, k + 1);
    }

    int type(int letter) {
        if (out(letter, 32, 126)) {
            return -1;
        }
        if (tape.length() == 60) {
            return -3;
        }
        tape += (char) letter;
        return tape.length();
    }

    int read() {
        String text = tape;
        tape = "";
        String bare = text.replace(" ", "");
        int fault = firstFault(bare);
        if (fault >= 0) {
            int place = 0;
            for (int left = fault; place < text.length() && (left > 0 || text.charAt(place) == ' '); place++) {
                left -= text.charAt(place) == ' ' ? 0 : 1;
            }
            return -20 - place;
        }
        keep();
        String[] polys = bare.split(";");
        now = new Told(partsOf(polys[0]), polys.length > 1 ? partsOf(polys[1]) : now.q, now.gain, now.draw);
        return degree(now.p);
    }

    /** The place in a text without blanks, or -1. */
    private static int firstFault(String bare) {
        int sound = 0;
        while (sound < bare.length() && canBegin(bare.substring(0, sound + 1))) {
            sound++;
        }
        int fault = sound == bare.length() && TEXT.matcher(bare).matches() ? -1 : sound;
        int ahead = 5;
        int place = 0;
        for (String piece : bare.substring(0, sound).split("(?<=[-+;])|(?=[-+;])")) {
            if (piece.equals(";")) {
                ahead = 5;
            } else if (!piece.isEmpty() && !piece.equals("+") && !piece.equals("-")) {
                if (powerOf(piece) >= ahead) {
                    return place;
                }
                ahead = powerOf(piece);
            }
            place += piece.length();
        }
        return fault;
    }

    private static boolean canBegin(String text) {
        Matcher matcher = TEXT.matcher(text);
        return matcher.matches() || matcher.hitEnd();
    }

    private static int powerOf(String term) {
        Matcher m = ONE_TERM.matcher(term);
        if (!m.matches()) {
            throw new IllegalStateException(term);
        }
        return m.group(2).isEmpty() ? 0 : m.group(3).isEmpty() ? 1 : Integer.parseInt(m.group(3));
    }

    private static List<Integer> partsOf(String terms) {
        Integer[] parts = {0, 0, 0, 0, 0};
        for (String term : terms.split("(?=[-+])")) {
            String bare = term.replaceAll("[-+]", "");
            Matcher m = ONE_TERM.matcher(bare);
            if (!m.matches()) {
                throw new IllegalStateException(terms);
            }
            int size = m.group(1).isEmpty() ? 1 : Integer.parseInt(m.group(1));
            parts[powerOf(bare)] = term.startsWith("-") ? -size : size;
        }
        return List.of(parts);
    }

    int drift(int n) {
        if (out(n, 1, 40)) {
            return -1;
        }
        for (int turn = 0; turn < n; turn++) {
            keep();
            BigInteger draw = BigInteger.valueOf(now.draw).multiply(BigInteger.valueOf(1103515245))
                    .add(BigInteger.valueOf(12345)).mod(BigInteger.ONE.shiftLeft(31));
            int x = draw.intValueExact() / 65536;
            now = with(x % 2, x / 2 % 5, x / 16 % 19 - 9, draw.intValueExact());
        }
        return degree(now.p);
    }

    int undo() {
        if (past.isEmpty()) {
            return -4;
        }
        now = past.remove(past.size() - 1);
        return past.size();
    }

    int seed(int v) {
        if (v < 0) {
            return -1;
        }
        int was = now.draw;
        now = new Told(now.p, now.q, now.gain, v);
        return was;
    }

    int image() {
        image = new Image(now, new ArrayList<>(past));
        return 1;
    }

    int restore() {
        if (image == null) {
            return -4;
        }
        now = image.told;
        past = new ArrayList<>(image.past);
        return 1;
    }

    private static long get(Object row, int lane, int i) {
        return switch (lane) {
            case 0 -> ((byte[]) row)[i];
            case 1 -> ((short[]) row)[i];
            case 2 -> ((int[]) row)[i];
            default -> ((long[]) row)[i];
        };
    }

    private static void set(Object row, int lane, int i, long v) {
        switch (lane) {
            case 0 -> ((byte[]) row)[i] = (byte) v;
            case 1 -> ((short[]) row)[i] = (short) v;
            case 2 -> ((int[]) row)[i] = (int) v;
            default -> ((long[]) row)[i] = v;
        }
    }

    private static int code(RuntimeException e) {
        if (e instanceof NullPointerException) {
            return -11;
        }
        if (e instanceof ClassCastException || e instanceof ArrayStoreException) {
            return -12;
        }
        if (e instanceof IndexOutOfBoundsException) {
            return -13;
        }
        if (e instanceof NegativeArraySizeException) {
            return -14;
        }
        throw e;
    }

    /** Throws as the machine would where a row is used; null alone passes a cast. */
    private static void take(Object row, int lane) {
        if (row == null) {
            throw new NullPointerException();
        }
        rowOf(lane, 0).getClass().cast(row);
    }

    private static Object rowOf(int lane, int n) {
        return switch (lane) {
            case 0 -> new byte[n];
            case 1 -> new short[n];
            case 2 -> new int[n];
            default -> new long[n];
        };
    }

    int judged(int sheet, int lane, int i, int n) {
        if (out(sheet, 0, 3) || out(lane, 0, 3) || out(n, 1, 4)) {
            return -1;
        }
        long[][] p = new long[n][5];
        try {
            take(sheets[sheet], lane);
            for (int m = 0; m < 5 * n; m++) {
                p[m / 5][m % 5] = get(sheets[sheet], lane, i + m);
            }
        } catch (RuntimeException e) {
            return code(e);
        }
        int set = 0;
        for (int m = 0; m < n; m++) {
            for (long v : p[m]) {
                if (out(v, -9, 9)) {
                    return -2;
                }
            }
            set += Oracle.steady(0, p[m]) ? 1 << m : 0;
            set += Oracle.steady(1, p[m]) ? 256 << m : 0;
        }
        return set;
    }

    int film(int which, int sheet, int lane, int i) {
        if (out(which, 0, 1) || out(sheet, 0, 3) || out(lane, 0, 3)) {
            return -1;
        }
        try {
            take(sheets[sheet], lane);
            Object row = rowOf(lane, 5);
            for (int k = 0; k < 5; k++) {
                set(row, lane, k, poly(which).get(k));
            }
            System.arraycopy(row, 0, sheets[sheet], i, 5);
            return 5;
        } catch (RuntimeException e) {
            return code(e);
        }
    }

    int sheet(int sheet, int lane, int n) {
        if (out(sheet, 0, 3) || out(lane, 0, 3) || n > 24) {
            return -1;
        }
        try {
            sheets[sheet] = rowOf(lane, n);
            return n;
        } catch (RuntimeException e) {
            return code(e);
        }
    }

    int drop(int sheet) {
        if (out(sheet, 0, 3)) {
            return -1;
        }
        try {
            int had = java.lang.reflect.Array.getLength(sheets[sheet]);
            sheets[sheet] = null;
            return had;
        } catch (RuntimeException e) {
            return code(e);
        }
    }

    int item(int sheet, int lane, int i, long v) {
        if (out(sheet, 0, 3) || out(lane, 0, 3)) {
            return -1;
        }
        try {
            take(sheets[sheet], lane);
            set(sheets[sheet], lane, i, v);
            return 1;
        } catch (RuntimeException e) {
            return code(e);
        }
    }

    int copy(int from, int i, int to, int j, int n) {
        if (out(from, 0, 3) || out(to, 0, 3)) {
            return -1;
        }
        try {
            System.arraycopy(sheets[from], i, sheets[to], j, n);
            return n;
        } catch (RuntimeException e) {
            return code(e);
        }
    }
}
