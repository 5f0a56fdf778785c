/** Promises 1 to 9: a new object, part, gain, told, count, roots, at, row, rows. */
public final class LoopsTest {
    private static final int[] ONE = {1, 0, 0, 0, 0};

    public static void main(String[] args) {
        newObject();
        parts();
        gains();
        counts();
        rootsOfProducts();
        rootsAreBad();
        loopsOfGains();
        rowsByHand();
        rowsWithGaps();
        rowsThatEndEarly();
        rowsAreLarge();
        Check.end();
    }

    private static LoopJudge of(int... p) {
        LoopJudge judge = new LoopJudge();
        Check.tell(judge, p, new int[5]);
        return judge;
    }

    private static void newObject() {
        LoopJudge judge = new LoopJudge();
        int[] p = {1, 1, 0, 0, 0};
        for (int k = 0; k < 5; k++) {
            Check.due("new: told(0, " + k + ")", judge.told(0, k), p[k] + 9);
            Check.due("new: told(1, " + k + ")", judge.told(1, k), ONE[k] + 9);
        }
        Check.due("new: GAIN", judge.count(0), 800);
        Check.due("new: undo", judge.undo(), LoopJudge.NONE);
        Check.due("new: restore", judge.restore(), LoopJudge.NONE);
        Check.due("new: THE DRAW", judge.seed(0), 1);
        Check.due("new: THE TAPE is empty", judge.type('s'), 1);
        for (int sheet = 0; sheet < 4; sheet++) {
            Check.due("new: sheet " + sheet, judge.drop(sheet), LoopJudge.NULL);
        }
    }

    private static void parts() {
        LoopJudge judge = new LoopJudge();
        Check.due("part of P", judge.part(0, 4, -9), 9);
        Check.due("part of P was -9", judge.part(0, 4, 9), 0);
        Check.due("part of P was 9", judge.part(0, 4, 3), 18);
        Check.due("part of Q", judge.part(1, 0, 5), 10);
        Check.due("it is so", judge.part(1, 0, 5), LoopJudge.NOT);
        Check.due("NOT isn't to be undone", judge.count(4), 4);
        Check.due("P's part", judge.told(0, 4), 12);
        Check.due("Q's part", judge.told(1, 0), 14);
        int[][] bad = {{-1, 0, 0}, {2, 0, 0}, {0, -1, 0}, {0, 5, 0}, {0, 0, -10}, {0, 0, 10},
            {Integer.MAX_VALUE, 0, 1}, {1, Integer.MIN_VALUE, 1}, {0, 1, Integer.MIN_VALUE}};
        for (int[] b : bad) {
            Check.due("part BAD " + b[0] + " " + b[1] + " " + b[2], judge.part(b[0], b[1], b[2]), LoopJudge.BAD);
        }
        for (int[] b : new int[][] {{-1, 0}, {2, 0}, {0, -1}, {0, 5}, {1, Integer.MAX_VALUE}}) {
            Check.due("told BAD " + b[0] + " " + b[1], judge.told(b[0], b[1]), LoopJudge.BAD);
        }
        Check.due("what is BAD isn't to be undone", judge.count(4), 4);
    }

    private static void gains() {
        LoopJudge judge = new LoopJudge();
        Check.due("gain(0) is so", judge.gain(0), LoopJudge.NOT);
        Check.due("gain(-800)", judge.gain(-800), 800);
        Check.due("gain(800)", judge.gain(800), 0);
        Check.due("gain(1)", judge.gain(1), 1600);
        Check.due("gain(801)", judge.gain(801), LoopJudge.BAD);
        Check.due("gain(-801)", judge.gain(-801), LoopJudge.BAD);
        Check.due("count(0)", judge.count(0), 801);
    }

    private static void counts() {
        LoopJudge judge = new LoopJudge();
        Check.due("count(-1)", judge.count(-1), LoopJudge.BAD);
        Check.due("count(5)", judge.count(5), LoopJudge.BAD);
        Check.tell(judge, new int[5], new int[] {0, 0, 0, 1, 0});
        Check.due("P has no degree", judge.count(1), LoopJudge.NONE);
        Check.due("Q's degree", judge.count(2), 3);
        Check.due("the loop has none by GAIN 0", judge.count(3), LoopJudge.NONE);
        judge.gain(1);
        Check.due("the loop's degree", judge.count(3), 3);
        judge.part(1, 3, 0);
        Check.due("Q has no degree", judge.count(2), LoopJudge.NONE);
        Check.tell(judge, new int[] {1, 0, 0, 0, 1}, new int[] {0, 0, 0, 0, -1});
        judge.gain(8);
        Check.due("the highest parts cancel", judge.count(3), 0);
        Check.due("six may be undone", judge.count(4), 6);
    }

    /** Factors by hand: PARTS 0 .. 2, then RIGHT, EVEN, LEFT by the axis and by the circle. */
    private static final int[][] FACTORS = {
        {0, 1, 0, 0, 1, 0, 0, 0, 1}, {1, 1, 0, 0, 0, 1, 0, 1, 0}, {-1, 1, 0, 1, 0, 0, 0, 1, 0},
        {2, 1, 0, 0, 0, 1, 1, 0, 0}, {-2, 1, 0, 1, 0, 0, 1, 0, 0}, {1, 2, 0, 0, 0, 1, 0, 0, 1},
        {-1, 2, 0, 1, 0, 0, 0, 0, 1}, {1, 0, 1, 0, 2, 0, 0, 2, 0}, {2, 0, 1, 0, 2, 0, 2, 0, 0},
        {1, 0, 2, 0, 2, 0, 0, 0, 2}, {1, 1, 1, 0, 0, 2, 0, 2, 0}, {1, -1, 1, 2, 0, 0, 0, 2, 0},
        {2, 1, 1, 0, 0, 2, 2, 0, 0}, {1, -1, 2, 2, 0, 0, 0, 0, 2}, {-2, 0, 1, 1, 0, 1, 2, 0, 0},
        {-1, 0, 3, 1, 0, 1, 0, 0, 2}, {-3, 0, 0, 0, 0, 0, 0, 0, 0}, {2, 0, 0, 0, 0, 0, 0, 0, 0}};

    private static void rootsOfProducts() {
        addFactors(new long[] {1, 0, 0, 0, 0}, new int[6], 0);
    }

    private static void addFactors(long[] product, int[] due, int from) {
        boolean small = true;
        for (long v : product) {
            small &= v >= -9 && v <= 9;
        }
        if (small) {
            dueRoots(product, due);
        }
        for (int f = from; f < FACTORS.length; f++) {
            long[] next = times(product, FACTORS[f]);
            if (next == null) {
                continue;
            }
            int[] more = due.clone();
            for (int w = 0; w < 6; w++) {
                more[w] += FACTORS[f][3 + w];
            }
            // numbers are taken once at most
            addFactors(next, more, FACTORS[f][1] == 0 && FACTORS[f][2] == 0 ? f + 1 : f);
        }
    }

    private static long[] times(long[] a, int[] factor) {
        long[] product = new long[7];
        for (int k = 0; k < 5; k++) {
            for (int j = 0; j < 3; j++) {
                product[k + j] += a[k] * factor[j];
            }
        }
        return product[5] != 0 || product[6] != 0 ? null : java.util.Arrays.copyOf(product, 5);
    }

    private static void dueRoots(long[] p, int[] due) {
        LoopJudge judge = new LoopJudge();
        int[] parts = new int[5];
        for (int k = 0; k < 5; k++) {
            parts[k] = (int) p[k];
        }
        Check.tell(judge, parts, ONE);
        String name = java.util.Arrays.toString(p);
        for (int by = 0; by < 2; by++) {
            for (int what = 0; what < 3; what++) {
                Check.due(name + ": roots(" + by + ", " + what + ")", judge.roots(by, what), due[3 * by + what]);
            }
            int steady = due[3 * by] + due[3 * by + 1] == 0 ? 1 : 0;
            Check.due(name + ": roots(" + by + ", 3)", judge.roots(by, 3), steady);
        }
    }

    private static void rootsAreBad() {
        LoopJudge judge = new LoopJudge();
        Check.due("roots(-1, 0)", judge.roots(-1, 0), LoopJudge.BAD);
        Check.due("roots(2, 0)", judge.roots(2, 0), LoopJudge.BAD);
        Check.due("roots(0, -1)", judge.roots(0, -1), LoopJudge.BAD);
        Check.due("roots(0, 4)", judge.roots(0, 4), LoopJudge.BAD);
        Check.due("at(-1, 0, 0)", judge.at(-1, 0, 0), LoopJudge.BAD);
        Check.due("at(2, 0, 0)", judge.at(2, 0, 0), LoopJudge.BAD);
        Check.due("at(0, 801, 0)", judge.at(0, 801, 0), LoopJudge.BAD);
        Check.due("at(0, -801, 0)", judge.at(0, -801, 0), LoopJudge.BAD);
        Check.due("at(0, 0, 4)", judge.at(0, 0, 4), LoopJudge.BAD);
        Check.due("at(0, 0, -1)", judge.at(0, 0, -1), LoopJudge.BAD);
        LoopJudge none = of(0, 0, 0, 0, 0);
        for (int what = 0; what < 4; what++) {
            Check.due("roots(1, " + what + ") of nothing", none.roots(1, what), LoopJudge.NONE);
            Check.due("at(0, 5, " + what + ") of nothing", none.at(0, 5, what), LoopJudge.NONE);
        }
        Check.due("BAD ahead of NONE: roots", none.roots(0, 4), LoopJudge.BAD);
        Check.due("BAD ahead of NONE: at", none.at(0, 801, 0), LoopJudge.BAD);
        Check.due("BAD ahead of NONE: row", none.row(0, 0, 2), LoopJudge.BAD);
    }

    private static void loopsOfGains() {
        long seed = 12345;
        for (int n = 0; n < 4000; n++) {
            LoopJudge judge = new LoopJudge();
            int[] p = new int[5];
            int[] q = new int[5];
            for (int k = 0; k < 5; k++) {
                seed = seed * 6364136223846793005L + 1442695040888963407L;
                p[k] = (int) (seed >>> 33) % 19 - 9;
                q[k] = (int) (seed >>> 43) % 19 - 9;
            }
            Check.tell(judge, p, q);
            int v = (int) (seed >>> 40) % 1601 - 800;
            judge.gain(v);
            long[] loop = new long[5];
            for (int k = 0; k < 5; k++) {
                loop[k] = 8 * p[k] + v * q[k];
            }
            for (int by = 0; by < 2; by++) {
                int[] due = Oracle.roots(by, loop);
                for (int what = 0; what < 3; what++) {
                    String name = java.util.Arrays.toString(loop) + ": roots(" + by + ", " + what + ")";
                    Check.due(name, judge.roots(by, what), due == null ? LoopJudge.NONE : due[what]);
                    Check.due(name + " at", judge.at(by, v, what), judge.roots(by, what));
                }
            }
        }
    }

    private static void dueRow(LoopJudge judge, int i, long... parts) {
        for (int k = 0; k < 5; k++) {
            long v = k < parts.length ? parts[k] : 0;
            Check.due("row(" + i + ", " + k + ", 0)", judge.row(i, k, 0), Math.abs(v));
            Check.due("row(" + i + ", " + k + ", 1)", judge.row(i, k, 1), v == 0 ? 0 : v > 0 ? 1 : 2);
        }
    }

    private static void rowsByHand() {
        LoopJudge judge = of(5, 4, 3, 2, 1);
        Check.due("rows of s4+2s3+3s2+4s+5", judge.rows(), 5);
        dueRow(judge, 0, 40, 0, 24, 0, 8);
        dueRow(judge, 1, 0, 32, 0, 16);
        dueRow(judge, 2, 5, 0, 1);
        dueRow(judge, 3, 0, -1);
        dueRow(judge, 4, 1);
        Check.due("row 5", judge.row(5, 0, 0), LoopJudge.NONE);
        Check.due("row of the greatest number", judge.row(Integer.MAX_VALUE, 0, 0), LoopJudge.NONE);
        Check.due("row -1", judge.row(-1, 0, 0), LoopJudge.BAD);
        Check.due("row of part -1", judge.row(0, -1, 0), LoopJudge.BAD);
        Check.due("row of part 5", judge.row(0, 5, 0), LoopJudge.BAD);
        Check.due("row, what -1", judge.row(0, 0, -1), LoopJudge.BAD);
        Check.due("row, what 2", judge.row(0, 0, 2), LoopJudge.BAD);
        Check.due("BAD ahead of NONE", judge.row(9, 5, 0), LoopJudge.BAD);
        LoopJudge minus = of(-5, -4, -3, -2, -1);
        dueRow(minus, 2, -5, 0, -1);
        dueRow(minus, 3, 0, 1);
        dueRow(minus, 4, -1);
    }

    private static void rowsWithGaps() {
        LoopJudge judge = of(7, 3, 5, 0, 2);
        Check.due("rows of 2s4+5s2+3s+7", judge.rows(), 3);
        dueRow(judge, 0, 56, 0, 40, 0, 16);
        dueRow(judge, 1, 0, 24);
        dueRow(judge, 2, 1);
        LoopJudge down = of(-7, -3, 5, 0, 2);
        dueRow(down, 2, -1);
        LoopJudge three = of(-4, 6, 0, 3, 0);
        Check.due("rows of 3s3+6s-4", three.rows(), 2);
        dueRow(three, 0, 0, 48, 0, 24);
        dueRow(three, 1, -32);
        LoopJudge below = of(6, 4, 2, -2, 1);
        dueRow(below, 2, 3, 0, 2);
        dueRow(below, 3, 0, 1);
    }

    private static void rowsThatEndEarly() {
        Check.due("rows of 7", of(7, 0, 0, 0, 0).rows(), 1);
        Check.due("rows of s4+s2+1", of(1, 0, 1, 0, 1).rows(), 1);
        Check.due("row 1 of s4+s2+1", of(1, 0, 1, 0, 1).row(1, 0, 0), LoopJudge.NONE);
        Check.due("rows of (s2+1)(s+1)", of(1, 1, 1, 1, 0).rows(), 2);
        Check.due("rows of (s2+1)(s2+s+1)", of(1, 1, 2, 1, 1).rows(), 3);
        Check.due("rows of nothing", of(0, 0, 0, 0, 0).rows(), 0);
        Check.due("row 0 of nothing", of(0, 0, 0, 0, 0).row(0, 0, 0), LoopJudge.NONE);
        Check.due("rows of s", of(0, 1, 0, 0, 0).rows(), 1);
        dueRow(of(0, 1, 0, 0, 0), 0, 0, 8);
    }

    private static void rowsAreLarge() {
        LoopJudge judge = new LoopJudge();
        Check.tell(judge, new int[] {9, 9, 8, 9, -9}, new int[] {9, 9, 9, 9, -9});
        judge.gain(799);
        // 7263, 7263, 7255, 7263, -7263: 7263 (7255 + 7263) and 7263 7263 have 7263 in common
        dueRow(judge, 2, 7263, 0, 14518);
        judge.gain(-800);
        Check.due("rows by GAIN -800", judge.rows(), 5);
        dueRow(judge, 0, -7128, 0, -7136, 0, 7128);
    }
}
