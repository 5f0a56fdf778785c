/** Promises 10 to 15: span, widest, spans, corners, neighbours, off. */
public final class SpansTest {
    public static void main(String[] args) {
        oneSpan();
        severalSpans();
        spansFollowWhatIsTold();
        spansAreBad();
        spansAsAt();
        boxes();
        boxesOfP();
        odds();
        Check.end();
    }

    private static void oneSpan() {
        LoopJudge judge = new LoopJudge();
        Check.read(judge, "s3+3s2+2s;1");
        // steady for 0 < GAIN / 8 < 6
        dueSpan(judge, 0, 0, 1, 47);
        Check.due("no span 1", judge.span(0, 1, 0), LoopJudge.NONE);
        Check.due("no widest 1", judge.widest(0, 1, 1), LoopJudge.NONE);
        Check.due("no span of the greatest number", judge.span(0, Integer.MAX_VALUE, 0), LoopJudge.NONE);
        Check.due("no widest of the greatest number", judge.widest(0, Integer.MAX_VALUE, 0), LoopJudge.NONE);
        Check.due("one span", judge.spans(0, 0), 1);
        Check.due("47 gains", judge.spans(0, 1), 47);
        Check.read(judge, "2s;1");
        // |GAIN| < 16
        Check.due("the circle's least", judge.span(1, 0, 0), 785);
        Check.due("the circle's greatest", judge.span(1, 0, 1), 815);
        Check.due("31 gains", judge.spans(1, 1), 31);
        Check.read(judge, "1;9");
        // a number has no roots, and by no GAIN it is 0 here: 8 + 9 GAIN
        Check.due("always steady", judge.spans(0, 1), 1601);
        Check.due("from the first gain", judge.span(1, 0, 0), 0);
        Check.due("to the last gain", judge.span(1, 0, 1), 1600);
        Check.read(judge, "1;1");
        // by GAIN -8 there is nothing
        Check.due("two spans around -8", judge.spans(0, 0), 2);
        dueSpan(judge, 0, 0, -800, -9);
        dueSpan(judge, 0, 1, -7, 800);
        Check.due("all but one", judge.spans(1, 1), 1600);
        Check.due("the widest comes first", judge.widest(1, 0, 0), 793);
        Check.due("the other behind", judge.widest(1, 1, 1), 791);
    }

    private static void dueSpan(LoopJudge judge, int by, int k, int least, int greatest) {
        Check.due("span(" + by + ", " + k + ", 0)", judge.span(by, k, 0), least + 800);
        Check.due("span(" + by + ", " + k + ", 1)", judge.span(by, k, 1), greatest + 800);
    }

    private static void severalSpans() {
        LoopJudge judge = new LoopJudge();
        Check.tell(judge, new int[] {0, 0, 0, 0, 0}, new int[] {3, 0, 0, 0, 0});
        // 3 GAIN: like widths on both sides of 0, the lesser ones first
        Check.due("like spans", judge.spans(0, 0), 2);
        Check.due("the lesser first", judge.widest(0, 0, 0), 0);
        Check.due("then the other", judge.widest(0, 1, 0), 801);
        Check.due("its end", judge.widest(0, 1, 1), 1600);
    }

    private static void spansFollowWhatIsTold() {
        LoopJudge judge = new LoopJudge();
        Check.due("at first", judge.spans(0, 1), 808);
        judge.part(0, 0, 2);
        Check.due("behind part", judge.spans(0, 1), 816);
        judge.gain(-100);
        Check.due("GAIN counts for nothing", judge.spans(0, 1), 816);
        judge.part(1, 0, -1);
        Check.due("behind part of Q", judge.span(0, 0, 1), 815);
        judge.undo();
        Check.due("undone", judge.spans(0, 1), 816);
        judge.image();
        Check.read(judge, "s+9");
        Check.due("behind a text", judge.spans(0, 1), 872);
        judge.restore();
        Check.due("restored", judge.spans(0, 1), 816);
        judge.drift(20);
        long gains = 0;
        for (int v = -800; v <= 800; v++) {
            gains += judge.at(1, v, 3) == 1 ? 1 : 0;
        }
        Check.due("behind a drift", judge.spans(1, 1), gains);
        Check.tell(judge, new int[5], new int[5]);
        Check.due("of nothing", judge.spans(1, 1), 0);
        Check.due("of nothing", judge.spans(0, 0), 0);
    }

    private static void spansAreBad() {
        LoopJudge judge = new LoopJudge();
        int[][] bad = {{-1, 0, 0}, {2, 0, 0}, {0, -1, 0}, {0, 0, -1}, {0, 0, 2}, {0, 99, 2}, {1, Integer.MIN_VALUE, 0}};
        for (int[] b : bad) {
            Check.due("span BAD " + b[0] + " " + b[1] + " " + b[2], judge.span(b[0], b[1], b[2]), LoopJudge.BAD);
            Check.due("widest BAD " + b[0] + " " + b[1] + " " + b[2], judge.widest(b[0], b[1], b[2]), LoopJudge.BAD);
        }
        for (int[] b : new int[][] {{-1, 0}, {2, 0}, {0, -1}, {0, 2}}) {
            Check.due("spans BAD " + b[0] + " " + b[1], judge.spans(b[0], b[1]), LoopJudge.BAD);
        }
    }

    /** What spans tell is what at tells, one gain behind the other; on loops that have several spans, too. */
    private static void spansAsAt() {
        long seed = 99;
        int most = 0;
        for (int n = 0; n < 1500; n++) {
            LoopJudge judge = new LoopJudge();
            int[] p = new int[5];
            int[] q = new int[5];
            for (int k = 0; k < 5; k++) {
                seed = seed * 6364136223846793005L + 1442695040888963407L;
                p[k] = (int) (seed >>> 33) % 10;
                q[k] = (int) (seed >>> 43) % 7 - 3;
            }
            Check.tell(judge, p, q);
            most = Math.max(most, dueSpansAsAt(judge, n % 2));
        }
        Check.holds("some loop has three spans", most >= 3);
    }

    private static int dueSpansAsAt(LoopJudge judge, int by) {
        java.util.List<int[]> due = new java.util.ArrayList<>();
        int gains = 0;
        for (int v = -800; v <= 800; v++) {
            if (judge.at(by, v, 3) != 1) {
                continue;
            }
            gains++;
            if (!due.isEmpty() && due.get(due.size() - 1)[1] == v - 1) {
                due.get(due.size() - 1)[1] = v;
            } else {
                due.add(new int[] {v, v});
            }
        }
        Check.due("spans", judge.spans(by, 0), due.size());
        Check.due("steady gains", judge.spans(by, 1), gains);
        for (int k = 0; k < due.size(); k++) {
            dueSpan(judge, by, k, due.get(k)[0], due.get(k)[1]);
        }
        due.sort((a, b) -> Integer.compare(b[1] - b[0], a[1] - a[0]));
        for (int k = 0; k < due.size(); k++) {
            Check.due("widest, 0", judge.widest(by, k, 0), due.get(k)[0] + 800);
            Check.due("widest, 1", judge.widest(by, k, 1), due.get(k)[1] + 800);
        }
        Check.due("no span more", judge.span(by, due.size(), 0), LoopJudge.NONE);
        Check.due("no widest more", judge.widest(by, due.size(), 0), LoopJudge.NONE);
        return due.size();
    }

    private static void boxes() {
        LoopJudge judge = new LoopJudge();
        Check.read(judge, "s4+4s3+8s2+8s+4");
        Check.due("corners by 0", judge.corners(0), 4);
        Check.due("corners by 1", judge.corners(1), cornersFound(new int[] {4, 8, 8, 4, 1}, 1));
        Check.due("corners by 9", judge.corners(9), cornersFound(new int[] {4, 8, 8, 4, 1}, 9));
        Check.read(judge, "3s4+9s3+9s2+6s+2");
        for (int r = 0; r < 10; r++) {
            Check.due("corners by " + r, judge.corners(r), cornersFound(new int[] {2, 6, 9, 9, 3}, r));
        }
        Check.due("corners(-1)", judge.corners(-1), LoopJudge.BAD);
        Check.due("corners(10)", judge.corners(10), LoopJudge.BAD);
        Check.due("neighbours(-1)", judge.neighbours(-1), LoopJudge.BAD);
        Check.due("neighbours(2)", judge.neighbours(2), LoopJudge.BAD);
    }

    private static int cornersFound(int[] p, int r) {
        int steady = 0;
        for (String sides : new String[] {"LLUUL", "UULLU", "LUULL", "ULLUU"}) {
            long[] corner = new long[5];
            for (int k = 0; k < 5; k++) {
                corner[k] = p[k] + (sides.charAt(k) == 'L' ? -r : r);
            }
            steady += Oracle.steady(0, corner) ? 1 : 0;
        }
        return steady;
    }

    /** Boxes look at P alone, and beyond -9 .. 9, too. */
    private static void boxesOfP() {
        LoopJudge judge = new LoopJudge();
        Check.due("at first by the axis", judge.neighbours(0), 11);
        Check.due("at first by the circle", judge.neighbours(1), 11);
        judge.gain(800);
        judge.part(1, 4, -9);
        Check.due("Q and GAIN count for nothing", judge.neighbours(0), 11);
        Check.due("nor for corners", judge.corners(0), 4);
        Check.due("nor for odds", judge.off(0, 0), 1);
        Check.tell(judge, new int[] {9, 9, 9, 9, 9}, new int[5]);
        long[] p = new long[5];
        int[] due = new int[2];
        for (int code = 0; code < 243; code++) {
            for (int k = 0, rest = code; k < 5; k++, rest /= 3) {
                p[k] = 8 + rest % 3;
            }
            due[0] += Oracle.steady(0, p) ? 1 : 0;
            due[1] += Oracle.steady(1, p) ? 1 : 0;
        }
        Check.due("around nines by the axis", judge.neighbours(0), due[0]);
        Check.due("around nines by the circle", judge.neighbours(1), due[1]);
    }

    private static void odds() {
        LoopJudge judge = new LoopJudge();
        Check.due("off by 5: above", judge.off(5, 0), 9);
        Check.due("off by 5: below", judge.off(5, 1), 32);
        Check.due("off by 0: above", judge.off(0, 0), 1);
        Check.due("off by 0: below", judge.off(0, 1), 1);
        // all one more: s4 + s3 + s2 + 2 s + 2 is not steady: 0 of 1
        Check.due("off by 10: above", judge.off(10, 0), 0);
        Check.due("off by 10: below", judge.off(10, 1), 1);
        Check.tell(judge, new int[] {0, 0, 0, 0, 0}, new int[5]);
        // steady: 1, s + 1, s2 + s + 1: one, two, three of five parts raised; more are not
        // by 1 of 10: 6561 and 729 and 81 of 100000
        Check.due("off of nothing by 1: above", judge.off(1, 0), 7371);
        Check.due("off of nothing by 1: below", judge.off(1, 1), 100000);
        Check.due("off of nothing by 0", judge.off(0, 1), 1);
        for (int[] b : new int[][] {{-1, 0}, {11, 0}, {0, -1}, {0, 2}}) {
            Check.due("off BAD " + b[0] + " " + b[1], judge.off(b[0], b[1]), LoopJudge.BAD);
        }
    }
}
