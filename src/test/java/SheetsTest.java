/** Promises 23 to 28: judged, film, sheet, drop, item, copy. */
public final class SheetsTest {
    private static final int BAD = LoopJudge.BAD, NULL = LoopJudge.NULL, CAST = LoopJudge.CAST,
        INDEX = LoopJudge.INDEX, SIZE = LoopJudge.SIZE, NOT = LoopJudge.NOT;

    public static void main(String[] args) {
        sheets();
        items();
        judgedRows();
        judgedIsRefused();
        films();
        copies();
        copiesAreRefused();
        Check.end();
    }

    private static void sheets() {
        LoopJudge judge = new LoopJudge();
        for (int sheet = 0; sheet < 4; sheet++) {
            Check.due("sheet " + sheet, judge.sheet(sheet, sheet, 6 * sheet + 6), 6 * sheet + 6);
        }
        Check.due("a new row in its place", judge.sheet(0, 3, 0), 0);
        Check.due("an empty row isn't nothing", judge.drop(0), 0);
        Check.due("but then", judge.drop(0), NULL);
        Check.due("24 items", judge.drop(3), 24);
        int[][] bad = {{-1, 0, 1}, {4, 0, 1}, {0, -1, 1}, {0, 4, 1}, {0, 0, 25}, {4, 0, -1}, {0, 4, -1},
            {0, 0, Integer.MAX_VALUE}};
        for (int[] b : bad) {
            Check.due("sheet BAD " + b[0] + " " + b[1] + " " + b[2], judge.sheet(b[0], b[1], b[2]), BAD);
        }
        Check.due("SIZE", judge.sheet(1, 0, -1), SIZE);
        Check.due("SIZE of the least number", judge.sheet(1, 0, Integer.MIN_VALUE), SIZE);
        Check.due("what is refused changes nothing", judge.drop(1), 12);
        Check.due("drop(-1)", judge.drop(-1), BAD);
        Check.due("drop(4)", judge.drop(4), BAD);
        newRowsHoldZeros();
    }

    private static void newRowsHoldZeros() {
        LoopJudge judge = new LoopJudge();
        judge.sheet(0, 0, 5);
        judge.item(0, 0, 0, 3);
        Check.due("3 is steady", judge.judged(0, 0, 0, 1), 257);
        judge.sheet(0, 0, 5);
        Check.due("a new row holds zeros", judge.judged(0, 0, 0, 1), 0);
        judge.item(0, 0, 0, 3);
        judge.drop(0);
        judge.sheet(0, 1, 5);
        Check.due("behind a drop, too", judge.judged(0, 1, 0, 1), 0);
    }

    private static void items() {
        LoopJudge judge = new LoopJudge();
        for (int lane = 0; lane < 4; lane++) {
            Check.due("item of nothing", judge.item(lane, lane, 0, 1), NULL);
            judge.sheet(lane, lane, 5);
            Check.due("item 4", judge.item(lane, lane, 4, 1), 1);
            Check.due("item 5", judge.item(lane, lane, 5, 1), INDEX);
            Check.due("item -1", judge.item(lane, lane, -1, 1), INDEX);
            Check.due("item of the greatest number", judge.item(lane, lane, Integer.MAX_VALUE, 1), INDEX);
            Check.due("another lane", judge.item(lane, (lane + 1) % 4, 0, 1), CAST);
            Check.due("CAST ahead of INDEX", judge.item(lane, (lane + 1) % 4, 9, 1), CAST);
        }
        Check.due("item BAD", judge.item(-1, 0, 0, 1), BAD);
        Check.due("item BAD", judge.item(4, 0, 0, 1), BAD);
        Check.due("item BAD", judge.item(0, -1, 0, 1), BAD);
        Check.due("item BAD", judge.item(0, 4, 99, 1), BAD);
        judge.drop(2);
        Check.due("BAD ahead of NULL", judge.item(2, 4, 0, 1), BAD);
        Check.due("NULL ahead of INDEX", judge.item(2, 2, 9, 1), NULL);
        lowestBits();
    }

    /** Items of each lane keep the lowest bits with a sign: what judged takes of them tells. */
    private static void lowestBits() {
        int[] bits = {8, 16, 32};
        for (int lane = 0; lane < 4; lane++) {
            LoopJudge judge = new LoopJudge();
            judge.sheet(0, lane, 5);
            for (int b : bits) {
                judge.item(0, lane, 0, (1L << b) + 3);
                int due = lane < 3 && b >= bits[lane] ? 257 : NOT;
                Check.due("lane " + lane + ", " + b + " bits and 3", judge.judged(0, lane, 0, 1), due);
                judge.item(0, lane, 0, (1L << b) - 4);
                due = lane < 3 && b >= bits[lane] ? 257 : NOT;
                Check.due("lane " + lane + ", " + b + " bits less 4", judge.judged(0, lane, 0, 1), due);
            }
            judge.item(0, lane, 0, Long.MIN_VALUE);
            Check.due("lane " + lane + ", the least number", judge.judged(0, lane, 0, 1), lane < 3 ? 0 : NOT);
        }
    }

    private static void put(LoopJudge judge, int sheet, int lane, int from, int... values) {
        for (int k = 0; k < values.length; k++) {
            Check.due("put", judge.item(sheet, lane, from + k, values[k]), 1);
        }
    }

    private static void judgedRows() {
        for (int lane = 0; lane < 4; lane++) {
            LoopJudge judge = new LoopJudge();
            judge.sheet(1, lane, 24);
            put(judge, 1, lane, 3, 6, 9, 4, 1, 0, 1, 2, 4, 0, 0, -9, 9, -9, 9, -9, 0, 0, 0, 0, 5);
            // the first by the axis, the second by both, the third by none, 5 s4 by the circle
            Check.due("four", judge.judged(1, lane, 3, 4), 1 + 2 + (2 + 8) * 256);
            Check.due("the second alone", judge.judged(1, lane, 8, 1), 257);
            Check.due("the last two", judge.judged(1, lane, 13, 2), 512);
            Check.due("from 4 on", judge.judged(1, lane, 4, 4) >= 0 ? 1 : 0, 1);
            Check.due("from 5 on", judge.judged(1, lane, 5, 4), INDEX);
        }
        LoopJudge judge = new LoopJudge();
        judge.sheet(0, 2, 20);
        Check.due("nothing isn't steady", judge.judged(0, 2, 0, 4), 0);
        put(judge, 0, 2, 0, -1, -1, 0, 0, 0);
        Check.due("-s-1", judge.judged(0, 2, 0, 1), 1);
    }

    private static void judgedIsRefused() {
        LoopJudge judge = new LoopJudge();
        judge.sheet(0, 0, 10);
        for (int[] b : new int[][] {{-1, 0, 0, 1}, {4, 0, 0, 1}, {0, -1, 0, 1}, {0, 4, 0, 1}, {0, 0, 0, 0},
            {0, 0, 0, 5}, {1, 0, 0, 0}, {0, 1, 0, 5}, {0, 0, -1, 0}, {0, 0, 0, Integer.MIN_VALUE}}) {
            Check.due("judged BAD", judge.judged(b[0], b[1], b[2], b[3]), BAD);
        }
        Check.due("NULL", judge.judged(1, 0, 0, 1), NULL);
        Check.due("NULL ahead of INDEX", judge.judged(1, 0, -1, 1), NULL);
        Check.due("CAST", judge.judged(0, 1, 0, 1), CAST);
        Check.due("CAST ahead of INDEX", judge.judged(0, 1, -1, 1), CAST);
        Check.due("INDEX below 0", judge.judged(0, 0, -1, 1), INDEX);
        Check.due("INDEX at the end", judge.judged(0, 0, 6, 1), INDEX);
        Check.due("INDEX of three", judge.judged(0, 0, 0, 3), INDEX);
        Check.due("INDEX far beyond", judge.judged(0, 0, Integer.MAX_VALUE, 4), INDEX);
        Check.due("INDEX far below", judge.judged(0, 0, Integer.MIN_VALUE, 4), INDEX);
        Check.due("up to the end", judge.judged(0, 0, 5, 1), 0);
        judge.item(0, 0, 9, 10);
        Check.due("NOT: above 9", judge.judged(0, 0, 0, 2), NOT);
        Check.due("only what is taken counts", judge.judged(0, 0, 0, 1), 0);
        Check.due("INDEX ahead of NOT", judge.judged(0, 0, 9, 1), INDEX);
        judge.item(0, 0, 9, -10);
        Check.due("NOT: below -9", judge.judged(0, 0, 5, 1), NOT);
        judge.item(0, 0, 9, -9);
        Check.due("-9 is fine", judge.judged(0, 0, 5, 1), 256);
        judge.sheet(2, 3, 5);
        judge.item(2, 3, 0, (1L << 32) + 1);
        Check.due("NOT: of a long", judge.judged(2, 3, 0, 1), NOT);
    }

    private static void films() {
        for (int lane = 0; lane < 4; lane++) {
            LoopJudge judge = new LoopJudge();
            Check.read(judge, "2s4-3s3+4s2-5s+6;-9s2+1");
            judge.sheet(0, lane, 11);
            Check.due("film of P", judge.film(0, 0, lane, 1), 5);
            Check.due("film of Q", judge.film(1, 0, lane, 6), 5);
            dueItems(judge, 0, lane, 0, 6, -5, 4, -3, 2, 1, 0, -9, 0, 0);
            Check.due("INDEX", judge.film(0, 0, lane, 7), INDEX);
            Check.due("INDEX below 0", judge.film(0, 0, lane, -1), INDEX);
            Check.due("INDEX far beyond", judge.film(0, 0, lane, Integer.MAX_VALUE), INDEX);
            Check.due("CAST", judge.film(0, 0, (lane + 1) % 4, 0), CAST);
            Check.due("CAST ahead of INDEX", judge.film(0, 0, (lane + 1) % 4, -1), CAST);
            Check.due("NULL", judge.film(0, 1, lane, 0), NULL);
            Check.due("NULL ahead of INDEX", judge.film(0, 1, lane, -1), NULL);
            dueItems(judge, 0, lane, 0, 6, -5, 4, -3, 2, 1, 0, -9, 0, 0);
        }
        LoopJudge judge = new LoopJudge();
        for (int[] b : new int[][] {{-1, 0, 0}, {2, 0, 0}, {0, -1, 0}, {0, 4, 0}, {0, 0, -1}, {0, 0, 4}}) {
            Check.due("film BAD", judge.film(b[0], b[1], b[2], 0), BAD);
        }
    }

    /**
     * What a sheet holds can't be asked for but by judged: an item w is told apart by a copy of it to a place
     * among four others, of which s + w, w s + 1 and the like are steady by just some w.
     */
    private static void dueItems(LoopJudge judge, int sheet, int lane, int... due) {
        judge.sheet(3, lane, 5);
        for (int i = 0; i < due.length; i++) {
            for (int c = -9; c <= 9; c++) {
                put(judge, 3, lane, 0, 0, c, 0, 0, 0);
                judge.copy(sheet, i, 3, 0, 1);
                long[] p = {due[i], c, 0, 0, 0};
                int set = (Oracle.steady(0, p) ? 1 : 0) + (Oracle.steady(1, p) ? 256 : 0);
                Check.due("item " + i + " by " + c, judge.judged(3, lane, 0, 1), set);
            }
        }
        judge.drop(3);
    }

    private static void copies() {
        LoopJudge judge = new LoopJudge();
        judge.sheet(0, 1, 6);
        put(judge, 0, 1, 0, 1, 2, 3, 4, 5, 6);
        Check.due("onward in the same", judge.copy(0, 0, 0, 2, 4), 4);
        dueItems(judge, 0, 1, 1, 2, 1, 2, 3, 4);
        Check.due("back in the same", judge.copy(0, 2, 0, 1, 4), 4);
        dueItems(judge, 0, 1, 1, 1, 2, 3, 4, 4);
        judge.sheet(1, 1, 3);
        Check.due("to another", judge.copy(0, 3, 1, 0, 3), 3);
        dueItems(judge, 1, 1, 3, 4, 4);
        Check.due("none", judge.copy(0, 6, 1, 3, 0), 0);
        dueItems(judge, 1, 1, 3, 4, 4);
        judge.sheet(2, 1, 0);
        Check.due("none to an empty one", judge.copy(2, 0, 2, 0, 0), 0);
    }

    private static void copiesAreRefused() {
        LoopJudge judge = new LoopJudge();
        judge.sheet(0, 0, 4);
        judge.sheet(1, 0, 3);
        judge.sheet(2, 2, 3);
        Check.due("BAD", judge.copy(-1, 0, 0, 0, 1), BAD);
        Check.due("BAD", judge.copy(4, 0, 0, 0, 1), BAD);
        Check.due("BAD", judge.copy(0, 0, -1, 0, 1), BAD);
        Check.due("BAD", judge.copy(0, 0, 4, 0, -1), BAD);
        Check.due("BAD ahead of NULL", judge.copy(3, 0, 4, 0, 1), BAD);
        Check.due("NULL from", judge.copy(3, 0, 0, 0, 1), NULL);
        Check.due("NULL to", judge.copy(0, 0, 3, 0, 1), NULL);
        Check.due("NULL ahead of INDEX", judge.copy(0, -1, 3, 0, -1), NULL);
        Check.due("CAST", judge.copy(0, 0, 2, 0, 1), CAST);
        Check.due("CAST ahead of INDEX", judge.copy(0, -1, 2, 0, -1), CAST);
        int[][] index = {{-1, 0, 0}, {0, -1, 0}, {0, 0, -1}, {5, 0, 0}, {0, 4, 0}, {2, 0, 3}, {0, 1, 3},
            {0, 0, Integer.MIN_VALUE}, {Integer.MAX_VALUE, 0, 1}, {0, Integer.MAX_VALUE, 1},
            {1, 1, Integer.MAX_VALUE}, {Integer.MAX_VALUE, Integer.MAX_VALUE, Integer.MAX_VALUE}};
        for (int[] x : index) {
            Check.due("INDEX " + x[0] + " " + x[1] + " " + x[2], judge.copy(0, x[0], 1, x[1], x[2]), INDEX);
        }
    }
}
