/** The edges of promises 10 to 15: span, widest, spans, corners, neighbours, off. */
final class SpanEdges {
    private static final int NONE = LoopJudge.NONE, BAD = LoopJudge.BAD;
    private static final int LEAST = Integer.MIN_VALUE, MOST = Integer.MAX_VALUE;

    private SpanEdges() {
    }

    static void run() {
        span();
        spansAreWhole();
        spansFollowWhatIsTold();
        spanIsRefused();
        widest();
        widestIsRefused();
        spans();
        corners();
        cornersOfNothing();
        neighbours();
        off();
        offInLowestTerms();
        boxesAreOfP();
    }

    /** The spans by one way, each by its least and its greatest GAIN, and no one more. */
    private static void dueSpans(LoopJudge judge, int by, int... ends) {
        for (int k = 0; k < ends.length / 2; k++) {
            Edge.due(judge.span(by, k, 0), ends[2 * k] + 800);
            Edge.due(judge.span(by, k, 1), ends[2 * k + 1] + 800);
        }
        Edge.due(judge.span(by, ends.length / 2, 0), NONE);
        Edge.due(judge.span(by, ends.length / 2, 1), NONE);
    }

    private static void dueWidest(LoopJudge judge, int by, int... ends) {
        for (int k = 0; k < ends.length / 2; k++) {
            Edge.due(judge.widest(by, k, 0), ends[2 * k] + 800);
            Edge.due(judge.widest(by, k, 1), ends[2 * k + 1] + 800);
        }
        Edge.due(judge.widest(by, ends.length / 2, 0), NONE);
        Edge.due(judge.widest(by, ends.length / 2, 1), NONE);
    }

    private static void span() {
        Edge.of(10, "SPAN k (0 on) by its GAINS: 0 the least, 1 the greatest one, and 800 together");
        LoopJudge judge = Edge.judge("s3+3s2+2s", "1");
        Edge.due(judge.span(0, 0, 0), 801);
        Edge.due(judge.span(0, 0, 1), 847);
        Edge.due(Edge.judge("1", "0").span(0, 0, 0), 0);
        Edge.due(Edge.judge("1", "0").span(0, 0, 1), 1600);
        Edge.of(10, "NONE.");
        Edge.refused(Scene.NEW, one -> one.span(0, 1, 0), NONE);
        Edge.refused(Scene.NEW, one -> one.span(1, 1, 1), NONE);
        Edge.refused(Scene.NEW, one -> one.span(1, MOST, 1), NONE);
        Edge.refused(Scene.NOTHING, one -> one.span(0, 0, 0), NONE);
        Edge.refused(Scene.NOTHING, one -> one.span(1, 0, 1), NONE);
    }

    private static void spansAreWhole() {
        Edge.of(10, "SPANS BY AXIS, BY CIRCLE: as many GAINS one behind the other as can be, by all of which THE LOOP is STEADY");
        // 8 s and GAIN
        dueSpans(Edge.judge("s", "1"), 0, 1, 800);
        dueSpans(Edge.judge("s", "1"), 1, -7, 7);
        dueSpans(Edge.judge("s", "-1"), 0, -800, -1);
        // steady by one GAIN alone: (8 - 5 GAIN) s - 8 + 9 GAIN
        dueSpans(Edge.judge("s-1", "-5s+9"), 0, 1, 1);
        // one GAIN between two spans, by which nothing is left
        dueSpans(Edge.judge("1", "1"), 0, -800, -9, -7, 800);
        dueSpans(Edge.judge("1", "1"), 1, -800, -9, -7, 800);
        // the degree falls at the greatest GAIN, which still is steady
        dueSpans(Edge.judge("s2+s+1", "-s2"), 0, -800, 8);
        // by the circle it is steady there alone, and far from there
        dueSpans(Edge.judge("s2+2s+1", "-s2"), 1, -800, -1, 8, 8, 33, 800);
        dueSpans(Edge.judge("1", "s"), 1, -800, -9, 0, 0, 9, 800);
        dueSpans(Edge.judge("1", "s"), 0, 0, 800);
        dueSpans(Edge.judge("0", "s+1"), 0, -800, -1, 1, 800);
        dueSpans(Edge.judge("0", "s+1"), 1);
        dueSpans(Edge.judge("0", "0"), 0);
        dueSpans(Edge.judge("0", "0"), 1);
        // at both of its ends a GAIN more would bring an EVEN root
        dueSpans(Edge.judge("9s+1", "-1"), 0, -800, 7);
        dueSpans(Edge.judge("2s4+9s3+9s2+9s", "1"), 0, 1, 55);
        Edge.of(10, ", of -800 .. 800.");
        dueSpans(Edge.judge("1", "0"), 0, -800, 800);
        dueSpans(Edge.judge("-9", "0"), 1, -800, 800);
    }

    /** One judge is asked again and again, so that nothing older may be answered. */
    private static void spansFollowWhatIsTold() {
        Edge.of(10, "by all of which THE LOOP is STEADY");
        for (int by = 0; by < 2; by++) {
            for (int place = 0; place < 10; place++) {
                LoopJudge judge = Edge.judge("s2+2s+1", "-s2");
                int[] before = {judge.spans(by, 0), judge.spans(by, 1), judge.widest(by, 0, 1)};
                for (int v : new int[] {5, -5, 0}) {
                    judge.part(place / 5, place % 5, v);
                    dueAsAt(judge, by);
                }
                judge.undo();
                judge.undo();
                judge.undo();
                Edge.due(judge.spans(by, 0), before[0]);
                Edge.due(judge.spans(by, 1), before[1]);
                Edge.due(judge.widest(by, 0, 1), before[2]);
            }
        }
        LoopJudge judge = new LoopJudge();
        dueSpans(judge, 0, -7, 800);
        judge.gain(-100);
        dueSpans(judge, 0, -7, 800);
        judge.image();
        Check.read(judge, "1;1");
        dueSpans(judge, 0, -800, -9, -7, 800);
        judge.restore();
        dueSpans(judge, 0, -7, 800);
        dueSpans(judge, 1, -15, -1);
        judge.drift(9);
        dueAsAt(judge, 0);
        dueAsAt(judge, 1);
        spansOfWhollyOtherLoops();
    }

    /** All PARTS become others at once, or none is left, or there are fewer spans than ahead of it. */
    private static void spansOfWhollyOtherLoops() {
        LoopJudge judge = Edge.judge("1", "1");
        dueSpans(judge, 0, -800, -9, -7, 800);
        Check.read(judge, "s4+4s3+8s2+8s+4;-s4-s3-s2-s-2");
        dueAsAt(judge, 0);
        dueAsAt(judge, 1);
        for (int k = 0; k < 10; k++) {
            judge.part(k / 5, k % 5, 0);
        }
        dueSpans(judge, 0);
        dueSpans(judge, 1);
        Edge.of(11, "WIDEST: by how many GAINS they have");
        LoopJudge fewer = Edge.judge("1", "1");
        dueWidest(fewer, 0, -7, 800, -800, -9);
        Check.read(fewer, "s-1;-5s+9");
        dueWidest(fewer, 0, 1, 1);
    }

    private static void dueAsAt(LoopJudge judge, int by) {
        int spans = 0;
        int gains = 0;
        boolean ahead = false;
        for (int v = -800; v <= 800; v++) {
            boolean steady = judge.at(by, v, 3) == 1;
            if (steady && !ahead) {
                Edge.due(judge.span(by, spans, 0), v + 800);
            }
            if (!steady && ahead || steady && v == 800) {
                Edge.due(judge.span(by, spans, 1), v + (steady ? 800 : 799));
                spans++;
            }
            gains += steady ? 1 : 0;
            ahead = steady;
        }
        Edge.due(judge.spans(by, 0), spans);
        Edge.due(judge.spans(by, 1), gains);
        Edge.due(judge.span(by, spans, 0), NONE);
    }

    private static void spanIsRefused() {
        Edge.of(10, "BAD: also k below 0.");
        Edge.bad(one -> one.span(0, -1, 0));
        Edge.bad(one -> one.span(1, -1, 1));
        Edge.bad(one -> one.span(0, LEAST, 0));
        Edge.bad(one -> one.span(-1, 0, 0));
        Edge.bad(one -> one.span(2, 0, 0));
        Edge.bad(one -> one.span(LEAST, 0, 0));
        Edge.bad(one -> one.span(MOST, 0, 0));
        Edge.bad(one -> one.span(0, 0, -1));
        Edge.bad(one -> one.span(0, 0, 2));
        Edge.bad(one -> one.span(0, 0, LEAST));
        Edge.bad(one -> one.span(0, 0, MOST));
        Edge.of(10, "of several BAD ahead of all others");
        Edge.refused(Scene.NOTHING, one -> one.span(0, 0, 2), BAD);
        Edge.refused(Scene.NEW, one -> one.span(0, 99, -1), BAD);
        Edge.refused(Scene.NEW, one -> one.span(2, 99, 0), BAD);
    }

    private static void widest() {
        Edge.of(11, "The WIDEST SPANS likewise, k 0 on.");
        dueWidest(Edge.judge("1", "0"), 1, -800, 800);
        dueWidest(Edge.judge("0", "0"), 0);
        Edge.refused(Scene.NEW, one -> one.widest(0, 1, 0), NONE);
        Edge.refused(Scene.NEW, one -> one.widest(1, MOST, 1), NONE);
        Edge.refused(Scene.NOTHING, one -> one.widest(0, 0, 0), NONE);
        Edge.of(11, "WIDEST: by how many GAINS they have, the most first;");
        dueWidest(Edge.judge("1", "1"), 0, -7, 800, -800, -9);
        dueWidest(Edge.judge("1", "-1"), 0, -800, 7, 9, 800);
        dueWidest(Edge.judge("s2+2s+1", "-s2"), 1, -800, -1, 33, 800, 8, 8);
        // by one GAIN more: 15 of them at 9 .. 23 behind many at both ends
        dueWidest(Edge.judge("-s3+9s2+5s+6", "8s3+5s2+6s-2"), 1, -800, -9, 33, 800, 9, 23, 1, 1);
        Edge.of(11, "of like ones that with the lesser GAINS.");
        dueWidest(Edge.judge("0", "3"), 0, -800, -1, 1, 800);
        dueWidest(Edge.judge("1", "s"), 1, -800, -9, 9, 800, 0, 0);
        dueWidest(Edge.judge("6s3+2s2+6s+4", "s3-7s2+2s-2"), 1, -48, -48, -3, -3, 23, 23);
        dueWidest(Edge.judge("-6s3-4s+1", "s3-8s2-4s-4"), 1, -4, 4, 9, 9, 48, 48);
        dueWidest(Edge.judge("9s3+6s2+7s+7", "4s3+8s2+2s+6"), 1, -3, 2, -18, -18, -11, -11);
    }

    private static void widestIsRefused() {
        Edge.of(11, "likewise");
        Edge.bad(one -> one.widest(0, -1, 0));
        Edge.bad(one -> one.widest(1, LEAST, 1));
        Edge.bad(one -> one.widest(-1, 0, 0));
        Edge.bad(one -> one.widest(2, 0, 0));
        Edge.bad(one -> one.widest(LEAST, 0, 0));
        Edge.bad(one -> one.widest(MOST, 0, 0));
        Edge.bad(one -> one.widest(0, 0, -1));
        Edge.bad(one -> one.widest(0, 0, 2));
        Edge.bad(one -> one.widest(0, 0, LEAST));
        Edge.bad(one -> one.widest(0, 0, MOST));
        Edge.of(11, "of several BAD ahead of all others");
        Edge.refused(Scene.NOTHING, one -> one.widest(0, 0, 2), BAD);
        Edge.refused(Scene.NEW, one -> one.widest(0, 99, -1), BAD);
        Edge.refused(Scene.NEW, one -> one.widest(-1, 99, 0), BAD);
    }

    private static void dueCounts(LoopJudge judge, int by, int spans, int gains) {
        Edge.due(judge.spans(by, 0), spans);
        Edge.due(judge.spans(by, 1), gains);
    }

    private static void spans() {
        Edge.of(12, "How many SPANS there are (what 0), STEADY GAINS of -800 .. 800 (1).");
        dueCounts(Edge.judge("1", "0"), 0, 1, 1601);
        dueCounts(Edge.judge("1", "0"), 1, 1, 1601);
        dueCounts(Edge.judge("1", "1"), 0, 2, 1600);
        dueCounts(Edge.judge("s-1", "-5s+9"), 0, 1, 1);
        dueCounts(Edge.judge("s2+2s+1", "-s2"), 1, 3, 800 + 1 + 768);
        dueCounts(Edge.judge("-s3+9s2+5s+6", "8s3+5s2+6s-2"), 1, 4, 792 + 1 + 15 + 768);
        dueCounts(Edge.judge("s", "1"), 0, 1, 800);
        dueCounts(Edge.judge("s", "1"), 1, 1, 15);
        Edge.of(12, "STEADY: it has a DEGREE, and all roots are LEFT.");
        dueCounts(Edge.judge("0", "0"), 0, 0, 0);
        dueCounts(Edge.judge("0", "0"), 1, 0, 0);
        dueCounts(Edge.judge("s-1", "0"), 0, 0, 0);
        dueCounts(Edge.judge("0", "s4"), 1, 2, 1600);
        Edge.of(12, "BAD.");
        Edge.bad(one -> one.spans(-1, 0));
        Edge.bad(one -> one.spans(2, 0));
        Edge.bad(one -> one.spans(LEAST, 0));
        Edge.bad(one -> one.spans(MOST, 0));
        Edge.bad(one -> one.spans(0, -1));
        Edge.bad(one -> one.spans(0, 2));
        Edge.bad(one -> one.spans(1, -1));
        Edge.bad(one -> one.spans(1, 2));
        Edge.bad(one -> one.spans(0, LEAST));
        Edge.bad(one -> one.spans(0, MOST));
    }

    private static void corners() {
        Edge.of(13, "How many CORNERS by r are STEADY BY AXIS.");
        Edge.due(Edge.judge("s4+4s3+8s2+8s+4", "1").corners(0), 4);
        Edge.due(Edge.judge("s4+4s3+8s2+8s-4", "1").corners(0), 0);
        Edge.due(Edge.judge("s+1", "1").corners(1), 0);
        Edge.of(13, "CORNERS of P by r (0 .. 9): PARTS that are each r less (L) or r more (U):");
        // U L L U U of 9, 9 less, 9 less, 9 more, 9 more is the number 9; the others have roots elsewhere
        Edge.due(Edge.judge("-9s4-9s3+9s2+9s", "1").corners(9), 1);
        Edge.due(Edge.judge("-9s4-9s3+9s2+9s", "1").corners(8), 0);
        // beyond -9: - 8 s3 - 10 s2 - 5 s - 6 is steady, with - 9 s2 it would not be
        Edge.due(Edge.judge("-s4-9s3-9s2-4s-7", "1").corners(1), 1);
        Edge.bad(one -> one.corners(-1));
        Edge.bad(one -> one.corners(10));
        Edge.of(13, "0 .. 4 are L L U U L, U U L L U, L U U L L, U L L U U.");
        for (int[] p : CORNER_CASES) {
            for (int r = 0; r < 10; r++) {
                LoopJudge judge = new LoopJudge();
                Check.tell(judge, p, new int[5]);
                Edge.due(judge.corners(r), cornersFound(p, r));
            }
        }
        java.util.Random random = new java.util.Random(13);
        for (int n = 0; n < 300; n++) {
            // mostly steady ones: the middle PARTS are the greater ones
            int[] p = {random.nextInt(5), 3 + random.nextInt(7), 4 + random.nextInt(6), 2 + random.nextInt(8),
                random.nextInt(4)};
            LoopJudge judge = new LoopJudge();
            Check.tell(judge, p, new int[5]);
            for (int r = 0; r < 4; r++) {
                Edge.due(judge.corners(r), cornersFound(p, r));
            }
        }
        Edge.of(13, "BAD.");
        Edge.bad(one -> one.corners(LEAST));
        Edge.bad(one -> one.corners(MOST));
    }

    /** PARTS 0 .. 4 such that the corners are neither all steady nor all not, by some r. */
    private static final int[][] CORNER_CASES = {
        {2, 6, 9, 9, 3}, {4, 8, 8, 4, 1}, {9, 9, 9, 9, 9}, {-9, -9, -9, -9, -9}, {0, 0, 0, 0, 0}, {0, -9, 9, 9, -9},
        {0, 9, -9, -9, 9}, {0, -9, -9, 9, 9}, {3, 9, 9, 3, 0}, {5, 5, 5, 0, 0}, {-5, -7, -5, 0, 0}, {4, 4, 0, 0, 0},
        {-1, -9, -9, -7, -2}, {2, 9, 8, 7, 1}, {9, 9, 5, 2, 0}, {1, 3, 7, 9, 4}, {3, 9, 9, 9, 2}, {1, 2, 9, 2, 1}};

    private static int cornersFound(int[] p, int r) {
        int steady = 0;
        for (String sides : new String[] {"LLUUL", "UULLU", "LUULL", "ULLUU"}) {
            long[] corner = new long[5];
            for (int k = 0; k < 5; k++) {
                corner[k] = p[k] + (sides.charAt(k) == 'L' ? -r : r);
            }
            steady += Oracle.steady(0, corner) ? 1 : 0;
        }
        return steady;
    }

    private static void cornersOfNothing() {
        Edge.of(13, "STEADY: it has a DEGREE, and all roots are LEFT.");
        Edge.due(Edge.judge("0", "1").corners(0), 0);
        Edge.due(Edge.judge("-5", "1").corners(0), 4);
        // by 1 the third corner has no PART at all
        LoopJudge judge = new LoopJudge();
        Check.tell(judge, new int[] {1, -1, -1, 1, 1}, new int[5]);
        Edge.due(judge.corners(1), 0);
    }

    private static void neighbours() {
        Edge.of(14, "How many NEIGHBOURS are STEADY BY AXIS, BY CIRCLE.");
        Edge.due(new LoopJudge().neighbours(0), 11);
        Edge.due(Edge.judge("5s4+2", "1").neighbours(0), 0);
        Edge.due(Edge.judge("9s4", "1").neighbours(1), 243);
        Edge.of(14, "NEIGHBOURS: all 243 polynomials whose PARTS are each that of P, one less, or one more.");
        String[] polys = {"9s4+9s3+9s2+9s+9", "-9s4-9s3-9s2-9s-9", "9s4-9s3+9s2-9s+9", "0", "1", "-1", "s", "s4", "-s4",
            "s4+5s3+9s2+7s+2", "2s3+9s2+9s+3", "4s2+3s+1", "9s4+s", "9s4+4s3+2", "-9s4-4s3+2s", "s3-s2+s-1"};
        for (String p : polys) {
            for (int by = 0; by < 2; by++) {
                Edge.due(Edge.judge(p, "1").neighbours(by), neighboursFound(Edge.judge(p, "1"), by));
            }
        }
        Edge.of(14, "STEADY: it has a DEGREE, and all roots are LEFT.");
        // around nothing: 1, s + 1, s2 + s + 1 by the axis, each with its opposite; nothing itself is not steady
        Edge.due(Edge.judge("0", "1").neighbours(0), 6);
        Edge.of(14, "BAD.");
        Edge.bad(one -> one.neighbours(-1));
        Edge.bad(one -> one.neighbours(2));
        Edge.bad(one -> one.neighbours(LEAST));
        Edge.bad(one -> one.neighbours(MOST));
    }

    private static int neighboursFound(LoopJudge judge, int by) {
        int steady = 0;
        long[] p = new long[5];
        for (int code = 0; code < 243; code++) {
            for (int k = 0, rest = code; k < 5; k++, rest /= 3) {
                p[k] = judge.told(0, k) - 9 + rest % 3 - 1;
            }
            steady += Oracle.steady(by, p) ? 1 : 0;
        }
        return steady;
    }

    private static void dueOff(LoopJudge judge, int c, int above, int below) {
        Edge.due(judge.off(c, 0), above);
        Edge.due(judge.off(c, 1), below);
    }

    private static void off() {
        Edge.of(15, "OFF: above (what 0), below (1).");
        dueOff(new LoopJudge(), 5, 9, 32);
        Edge.of(15, "OFF by c of 10 (0 .. 10): each PART of P is one more by c of 10, apart: how likely it's STEADY BY AXIS then:");
        // by 0 it is P for sure, by 10 each PART is one more for sure
        dueOff(Edge.judge("s+1", "1"), 0, 1, 1);
        dueOff(Edge.judge("s-1", "1"), 0, 0, 1);
        dueOff(Edge.judge("s+1", "1"), 10, 0, 1);
        dueOff(Edge.judge("s4+2s3+4s2+2s", "1"), 0, 0, 1);
        dueOff(Edge.judge("s4+3s3+6s2+3s", "1"), 10, 1, 1);
        // steady unless s0 stays 0, whatever the others do: 1 of 10, 9 of 10
        dueOff(Edge.judge("s4+3s3+6s2+3s", "1"), 1, 1, 10);
        dueOff(Edge.judge("s4+3s3+6s2+3s", "1"), 9, 9, 10);
        // 9 and one more is 10: 3 s3 + 10 s2 + s + 3 is steady, with 9 it would not be
        dueOff(Edge.judge("-s4+2s3+9s2+2", "1"), 10, 1, 1);
        Edge.bad(one -> one.off(-1, 0));
        Edge.bad(one -> one.off(11, 0));
        Edge.bad(one -> one.off(-1, 1));
        Edge.bad(one -> one.off(11, 1));
        Edge.of(15, "STEADY: it has a DEGREE, and all roots are LEFT.");
        dueOff(Edge.judge("0", "1"), 0, 0, 1);
        dueOff(Edge.judge("-1", "1"), 0, 1, 1);
        Edge.of(15, "BAD.");
        Edge.bad(one -> one.off(0, -1));
        Edge.bad(one -> one.off(0, 2));
        Edge.bad(one -> one.off(LEAST, 0));
        Edge.bad(one -> one.off(MOST, 0));
        Edge.bad(one -> one.off(0, LEAST));
        Edge.bad(one -> one.off(0, MOST));
    }

    private static void offInLowestTerms() {
        Edge.of(15, "a fraction in lowest terms: above, below.");
        // around nothing 1, s + 1, s2 + s + 1 are steady: by 1 of 10 that is 6561 + 729 + 81 of 100000
        dueOff(Edge.judge("0", "1"), 1, 7371, 100000);
        // by 5 of 10: 3 of 32; by 2 of 10: 8192 + 2048 + 512 of 100000
        dueOff(Edge.judge("0", "1"), 5, 3, 32);
        dueOff(Edge.judge("0", "1"), 2, 336, 3125);
        // 0 of 100000 is 0 of 1, all of them 1 of 1
        dueOff(Edge.judge("s4-9s3", "1"), 5, 0, 1);
        dueOff(Edge.judge("s4+3s3+6s2+3s+1", "1"), 5, 1, 1);
        for (int c = 0; c <= 10; c++) {
            int common = c == 0 ? 10 : java.math.BigInteger.valueOf(c).gcd(java.math.BigInteger.TEN).intValue();
            dueOff(Edge.judge("s4+3s3+6s2+3s", "1"), c, c / common, 10 / common);
        }
    }

    private static void boxesAreOfP() {
        Edge.of(13, "CORNERS of P by r");
        LoopJudge judge = Edge.judge("s4+4s3+8s2+8s+4", "-9s4-9s3-9s2-9s-9", 800);
        Edge.due(judge.corners(0), 4);
        Edge.of(14, "whose PARTS are each that of P");
        Edge.due(judge.neighbours(0), neighboursFound(judge, 0));
        Edge.of(15, "each PART of P is one more");
        dueOff(judge, 0, 1, 1);
    }
}
