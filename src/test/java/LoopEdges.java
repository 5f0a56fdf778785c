/** The edges of promises 1 to 9: a new object, part, gain, told, count, roots, at, row, rows. */
final class LoopEdges {
    private static final int NOT = LoopJudge.NOT, NONE = LoopJudge.NONE, NULL = LoopJudge.NULL;
    private static final int LEAST = Integer.MIN_VALUE, MOST = Integer.MAX_VALUE;

    private LoopEdges() {
    }

    static void run() {
        newObject();
        objectsAreApart();
        lastCall();
        constants();
        part();
        partIsRefused();
        gain();
        told();
        count();
        degrees();
        roots();
        rootsByAxis();
        rootsByCircle();
        rootsCloseBy();
        steady();
        at();
        row();
        rowsZeroAndOne();
        furtherRows();
        rowsOfLargeParts();
        rows();
        questions();
    }

    private static void newObject() {
        Edge.of(1, "As told.");
        Edge.due(new LoopJudge().count(4), 0);
        Edge.due(new LoopJudge().undo(), NONE);
        Edge.due(new LoopJudge().restore(), NONE);
        Edge.due(new LoopJudge().type('s'), 1);
        Edge.due(new LoopJudge().read(), -20);
        Edge.of(1, "At first P is s and 1, Q is 1.");
        Edge.dueParts(new LoopJudge(), 0, 1, 1, 0, 0, 0);
        Edge.dueParts(new LoopJudge(), 1, 1, 0, 0, 0, 0);
        Edge.of(1, "GAIN: -800 .. 800 (0 at first)");
        Edge.due(new LoopJudge().count(0), 800);
        Edge.of(1, "THE DRAW is a number of 31 bits (1 at first)");
        Edge.due(new LoopJudge().seed(0), 1);
        Edge.of(1, "sheets 0 .. 3: nothing (at first)");
        for (int sheet = 0; sheet < 4; sheet++) {
            Edge.due(new LoopJudge().drop(sheet), NULL);
        }
    }

    private static void objectsAreApart() {
        Edge.of(1, "As told.");
        java.util.List<String> fresh = new Scene(judge -> { }).look();
        LoopJudge first = Scene.BUSY.make();
        java.util.List<String> beside = new Scene(judge -> { }).look();
        Edge.holds(fresh.equals(beside));
        LoopJudge second = new LoopJudge();
        second.part(0, 0, 7);
        Edge.due(first.told(0, 0), Scene.BUSY.make().told(0, 0));
    }

    private static void lastCall() {
        Edge.of(1, "An object is used for at most 512 calls after it has been made; what later calls answer is free.");
        LoopJudge judge = new LoopJudge();
        for (int call = 1; call <= 506; call++) {
            Edge.due(judge.gain(call % 2 == 0 ? 0 : -call), call == 1 ? 800 : call % 2 == 0 ? 801 - call : 800);
        }
        for (int call = 507; call <= 512; call++) {
            Edge.due(judge.undo(), 512 - call);
        }
    }

    private static void constants() {
        Edge.of(1, "BAD -1 (a number is not as told, there is no such thing), NOT -2 (as told), FULL -3, NONE -4 (as told)");
        Edge.due(LoopJudge.BAD, -1);
        Edge.due(LoopJudge.NOT, -2);
        Edge.due(LoopJudge.FULL, -3);
        Edge.due(LoopJudge.NONE, -4);
        Edge.of(1, "CAST -12 (of SHEETS another LANE)");
        Edge.due(LoopJudge.CAST, -12);
        Edge.of(1, "what the machine finds: NULL -11, INDEX -13, SIZE -14");
        Edge.due(LoopJudge.NULL, -11);
        Edge.due(LoopJudge.INDEX, -13);
        Edge.due(LoopJudge.SIZE, -14);
    }

    private static void part() {
        for (int which = 0; which < 2; which++) {
            for (int k = 0; k < 5; k++) {
                LoopJudge judge = Edge.judge("5s4+5s3+5s2+5s+5", "6s4+6s3+6s2+6s+6");
                int was = 5 + which;
                Edge.of(2, "PART k of P (which 0), Q (1) becomes v: what it was, and 9 together.");
                Edge.due(judge.part(which, k, -9), was + 9);
                Edge.due(judge.part(which, k, 9), 0);
                Edge.due(judge.part(which, k, 0), 18);
                Edge.due(judge.part(which, k, -9), 9);
                for (int other = 0; other < 10; other++) {
                    int due = other == which * 5 + k ? -9 : 5 + other / 5;
                    Edge.due(judge.told(other / 5, other % 5), due + 9);
                }
                Edge.due(judge.count(0), 800);
                Edge.due(judge.count(4), 5);
            }
        }
        Edge.of(2, "PART k times s to the k, together.");
        for (int k = 0; k < 5; k++) {
            LoopJudge judge = Edge.judge("0", "0");
            judge.part(0, k, 1);
            Edge.due(judge.count(1), k);
            Edge.due(judge.row(0, k, 0), 8);
        }
    }

    private static void partIsRefused() {
        Edge.of(2, "P and Q are polynomials in s: each has PARTS 0 .. 4, -9 .. 9");
        Edge.bad(judge -> judge.part(0, -1, 3));
        Edge.bad(judge -> judge.part(0, 5, 3));
        Edge.bad(judge -> judge.part(1, -1, 3));
        Edge.bad(judge -> judge.part(1, 5, 3));
        Edge.bad(judge -> judge.part(0, 0, -10));
        Edge.bad(judge -> judge.part(0, 4, 10));
        Edge.bad(judge -> judge.part(1, 4, -10));
        Edge.bad(judge -> judge.part(1, 0, 10));
        Edge.of(2, "BAD");
        Edge.bad(judge -> judge.part(-1, 4, 3));
        Edge.bad(judge -> judge.part(2, 0, 3));
        Edge.bad(judge -> judge.part(LEAST, 0, 3));
        Edge.bad(judge -> judge.part(MOST, 0, 3));
        Edge.bad(judge -> judge.part(0, LEAST, 3));
        Edge.bad(judge -> judge.part(0, MOST, 3));
        Edge.bad(judge -> judge.part(0, 0, LEAST));
        Edge.bad(judge -> judge.part(0, 0, MOST));
        Edge.of(2, "NOT: it is so.");
        Edge.refused(Scene.NEW, judge -> judge.part(0, 0, 1), NOT);
        Edge.refused(Scene.NEW, judge -> judge.part(0, 4, 0), NOT);
        Edge.refused(Scene.NEW, judge -> judge.part(1, 0, 1), NOT);
        Edge.refused(Scene.BUSY, judge -> judge.part(0, 3, 4), NOT);
        Scene ends = new Scene(judge -> Check.read(judge, "9s4-9;-9s4+9"));
        Edge.refused(ends, judge -> judge.part(0, 4, 9), NOT);
        Edge.refused(ends, judge -> judge.part(0, 0, -9), NOT);
        Edge.refused(ends, judge -> judge.part(1, 4, -9), NOT);
        Edge.refused(ends, judge -> judge.part(1, 0, 9), NOT);
    }

    private static void gain() {
        Edge.of(3, "GAIN becomes v: what it was, and 800 together.");
        LoopJudge judge = new LoopJudge();
        Edge.due(judge.gain(-800), 800);
        Edge.due(judge.gain(800), 0);
        Edge.due(judge.gain(-1), 1600);
        Edge.due(judge.gain(0), 799);
        Edge.dueParts(judge, 0, 1, 1, 0, 0, 0);
        Edge.dueParts(judge, 1, 1, 0, 0, 0, 0);
        Edge.due(judge.count(4), 4);
        Edge.of(3, "GAIN: -800 .. 800 (0 at first)");
        Edge.bad(one -> one.gain(-801));
        Edge.bad(one -> one.gain(801));
        Edge.of(3, "BAD");
        Edge.bad(one -> one.gain(LEAST));
        Edge.bad(one -> one.gain(MOST));
        Edge.of(3, "NOT: it is so.");
        Edge.refused(Scene.NEW, one -> one.gain(0), NOT);
        Edge.refused(Scene.BUSY, one -> one.gain(-37), NOT);
        Edge.refused(Scene.NEW.then(one -> one.gain(800)), one -> one.gain(800), NOT);
        Edge.refused(Scene.NEW.then(one -> one.gain(-800)), one -> one.gain(-800), NOT);
        Edge.of(3, ", in eighths.");
        // s and 8 eighths
        Edge.due(Edge.judge("s", "1", 8).roots(1, 1), 1);
        Edge.due(Edge.judge("s", "1", 7).roots(1, 2), 1);
        Edge.due(Edge.judge("s", "1", 9).roots(1, 0), 1);
    }

    private static void told() {
        Edge.of(4, "PART k of P, Q, and 9 together.");
        LoopJudge judge = Edge.judge("9s4-9s3+s-1", "-9s4+9s3-s+1");
        Edge.dueParts(judge, 0, -1, 1, 0, -9, 9);
        Edge.dueParts(judge, 1, 1, -1, 0, 9, -9);
        Edge.due(judge.told(0, 3), 0);
        Edge.due(judge.told(1, 3), 18);
        Edge.of(4, "BAD.");
        Edge.bad(one -> one.told(-1, 4));
        Edge.bad(one -> one.told(2, 0));
        Edge.bad(one -> one.told(0, -1));
        Edge.bad(one -> one.told(0, 5));
        Edge.bad(one -> one.told(1, -1));
        Edge.bad(one -> one.told(1, 5));
        Edge.bad(one -> one.told(LEAST, 0));
        Edge.bad(one -> one.told(MOST, 0));
        Edge.bad(one -> one.told(0, LEAST));
        Edge.bad(one -> one.told(0, MOST));
    }

    private static void count() {
        Edge.of(5, "0 GAIN, and 800 together");
        Edge.due(Edge.judge("s", "1", -800).count(0), 0);
        Edge.due(Edge.judge("s", "1", 800).count(0), 1600);
        Edge.of(5, ", 4 what may be UNDONE.");
        LoopJudge judge = new LoopJudge();
        for (int told = 1; told <= 8; told++) {
            judge.gain(told);
            Edge.due(judge.count(4), Math.min(told, 6));
        }
        for (int left = 5; left >= 0; left--) {
            judge.undo();
            Edge.due(judge.count(4), left);
        }
        Edge.of(5, "BAD.");
        Edge.bad(one -> one.count(-1));
        Edge.bad(one -> one.count(5));
        Edge.bad(one -> one.count(LEAST));
        Edge.bad(one -> one.count(MOST));
    }

    private static void degrees() {
        Edge.of(5, ", 1, 2 DEGREES of P, Q, 3 that of THE LOOP (NONE: it has none)");
        LoopJudge judge = Edge.judge("s3", "s4+s", 1);
        Edge.due(judge.count(1), 3);
        Edge.due(judge.count(2), 4);
        Edge.due(judge.count(3), 4);
        judge.gain(0);
        Edge.due(judge.count(3), 3);
        Edge.of(5, "DEGREE: the greatest k of which the PART isn't 0; none, if all are 0.");
        Edge.due(Edge.judge("-9", "1").count(1), 0);
        Edge.due(Edge.judge("1", "-s4+9").count(2), 4);
        Edge.due(Edge.judge("0", "s2").count(1), NONE);
        Edge.due(Edge.judge("0", "s2").count(2), 2);
        Edge.due(Edge.judge("0", "s2").count(3), NONE);
        Edge.due(Edge.judge("0", "s2", -1).count(3), 2);
        Edge.due(Edge.judge("s", "0", 800).count(2), NONE);
        Edge.due(Edge.judge("s", "0", 800).count(3), 1);
        Edge.of(5, "THE LOOP of a GAIN: 8 times P and GAIN times Q, together.");
        Edge.due(Edge.judge("s4+s3+2", "-s4", 8).count(3), 3);
        Edge.due(Edge.judge("s4+s3+2", "-s4", 7).count(3), 4);
        Edge.due(Edge.judge("s4+s3+2", "-s4", -8).count(3), 4);
        Edge.due(Edge.judge("9s4-9s", "-s4+s", 72).count(3), NONE);
        Edge.due(Edge.judge("9s4-9s", "-s4+s", 71).count(3), 4);
        Edge.due(Edge.judge("9s4-9s+1", "-s4+s", 72).count(3), 0);
    }

    /** RIGHT, EVEN, LEFT by the axis, then by the circle. */
    private static void dueRoots(LoopJudge judge, int... due) {
        for (int by = 0; by < 2; by++) {
            for (int what = 0; what < 3; what++) {
                Edge.due(judge.roots(by, what), due[3 * by + what]);
            }
            Edge.due(judge.roots(by, 3), due[3 * by] + due[3 * by + 1] == 0 ? 1 : 0);
        }
    }

    private static void dueRoots(String p, int... due) {
        dueRoots(Edge.judge(p, "1"), due);
    }

    private static void roots() {
        Edge.of(6, "Of THE LOOP of GAIN, BY AXIS (by 0), BY CIRCLE (1): 0 RIGHT, 1 EVEN, 2 LEFT roots, 3 whether it's STEADY (1, 0)");
        // one RIGHT, two EVEN, one LEFT by the axis: (s - 2)(s2 + 1)(2 s + 1); by the circle the same
        dueRoots("2s4-3s3-3s-2", 1, 2, 1, 1, 2, 1);
        dueRoots(Edge.judge("s", "s+3", 8), 0, 0, 1, 1, 0, 0);
        Edge.of(6, "NONE: it has no DEGREE.");
        for (int by = 0; by < 2; by++) {
            for (int what = 0; what < 4; what++) {
                int way = by;
                int asked = what;
                Edge.refused(Scene.NOTHING, judge -> judge.roots(way, asked), NONE);
                Edge.due(Edge.judge("9s4-9s+1", "-9s4+9s-1", 8).roots(by, what), NONE);
            }
        }
        Edge.of(6, "BAD.");
        Edge.bad(judge -> judge.roots(-1, 0));
        Edge.bad(judge -> judge.roots(2, 0));
        Edge.bad(judge -> judge.roots(0, -1));
        Edge.bad(judge -> judge.roots(0, 4));
        Edge.bad(judge -> judge.roots(1, -1));
        Edge.bad(judge -> judge.roots(1, 4));
        Edge.bad(judge -> judge.roots(LEAST, 0));
        Edge.bad(judge -> judge.roots(MOST, 0));
        Edge.bad(judge -> judge.roots(0, LEAST));
        Edge.bad(judge -> judge.roots(0, MOST));
        Edge.of(6, "Answers below 0, of several BAD ahead of all others");
        Edge.refused(Scene.NOTHING, judge -> judge.roots(0, 4), LoopJudge.BAD);
        Edge.refused(Scene.NOTHING, judge -> judge.roots(2, 0), LoopJudge.BAD);
    }

    private static void rootsByAxis() {
        Edge.of(6, "BY AXIS (0): RIGHT roots have a real part above 0, EVEN ones have none, LEFT ones have one below 0.");
        dueRoots("s", 0, 1, 0, 0, 0, 1);
        dueRoots("s+9", 0, 0, 1, 1, 0, 0);
        dueRoots("s-9", 1, 0, 0, 1, 0, 0);
        dueRoots("-s+9", 1, 0, 0, 1, 0, 0);
        dueRoots("s2+1", 0, 2, 0, 0, 2, 0);
        dueRoots("s2-1", 1, 0, 1, 0, 2, 0);
        dueRoots("s2+s+1", 0, 0, 2, 0, 2, 0);
        dueRoots("s2-s+1", 2, 0, 0, 0, 2, 0);
        dueRoots("s3+s", 0, 3, 0, 0, 2, 1);
        dueRoots("s4+1", 2, 0, 2, 0, 4, 0);
        dueRoots("s4-1", 1, 2, 1, 0, 4, 0);
        dueRoots("s4+5s2+4", 0, 4, 0, 2, 2, 0);
        dueRoots("s4-5s2+4", 2, 0, 2, 2, 2, 0);
        dueRoots("s4+3s2-4", 1, 2, 1, 2, 2, 0);
        dueRoots("-s4-5s2-4", 0, 4, 0, 2, 2, 0);
        // in s times s: both roots below 0, or no real root; 9 times 9 is 1 more than 4 5 4, 3 less than 4 7 3
        dueRoots("5s4+9s2+4", 0, 4, 0, 0, 2, 2);
        dueRoots("7s4+9s2+3", 2, 0, 2, 0, 0, 4);
        dueRoots("-7s4-9s2-3", 2, 0, 2, 0, 0, 4);
        dueRoots("5s4-9s2+4", 2, 0, 2, 0, 2, 2);
        dueRoots("7s4-9s2+3", 2, 0, 2, 0, 0, 4);
        dueRoots("4s4+4s2+1", 0, 4, 0, 0, 0, 4);
        dueRoots("-4s4-4s2-1", 0, 4, 0, 0, 0, 4);
        dueRoots("7", 0, 0, 0, 0, 0, 0);
        dueRoots("-7", 0, 0, 0, 0, 0, 0);
        Edge.of(6, "A root counts as often as it is one.");
        dueRoots("s4", 0, 4, 0, 0, 0, 4);
        dueRoots("s4+4s3+6s2+4s+1", 0, 0, 4, 0, 4, 0);
        dueRoots("s4-4s3+6s2-4s+1", 4, 0, 0, 0, 4, 0);
        dueRoots("s3-3s2+3s-1", 3, 0, 0, 0, 3, 0);
        dueRoots("s4+2s2+1", 0, 4, 0, 0, 4, 0);
        dueRoots("s4-2s2+1", 2, 0, 2, 0, 4, 0);
        dueRoots("s4+2s3+3s2+2s+1", 0, 0, 4, 0, 4, 0);
        dueRoots("4s4-4s3+s2", 2, 2, 0, 0, 0, 4);
        dueRoots("s4-8s3+9s2", 2, 2, 0, 2, 0, 2);
    }

    private static void rootsByCircle() {
        Edge.of(6, "BY CIRCLE (1): RIGHT are those further from 0 than 1, EVEN those as far as 1, LEFT those nearer.");
        dueRoots("s+1", 0, 0, 1, 0, 1, 0);
        dueRoots("s-1", 1, 0, 0, 0, 1, 0);
        dueRoots("9s+8", 0, 0, 1, 0, 0, 1);
        dueRoots("9s-8", 1, 0, 0, 0, 0, 1);
        dueRoots("8s+9", 0, 0, 1, 1, 0, 0);
        dueRoots("8s-9", 1, 0, 0, 1, 0, 0);
        dueRoots("9s2+8", 0, 2, 0, 0, 0, 2);
        dueRoots("8s2+9", 0, 2, 0, 2, 0, 0);
        dueRoots("2s2+5s+2", 0, 0, 2, 1, 0, 1);
        dueRoots("2s2-5s+2", 2, 0, 0, 1, 0, 1);
        dueRoots("5s2-6s+5", 2, 0, 0, 0, 2, 0);
        dueRoots("5s2+6s+5", 0, 0, 2, 0, 2, 0);
        dueRoots("s3+1", 2, 0, 1, 0, 3, 0);
        dueRoots("2s3+2s2+s+1", 0, 2, 1, 0, 1, 2);
        dueRoots("s4+s3+s2+s+1", 2, 0, 2, 0, 4, 0);
        dueRoots("9s4+8", 2, 0, 2, 0, 0, 4);
        dueRoots("8s4+9", 2, 0, 2, 4, 0, 0);
        // roots both 1 and -1, and a degree below four beside it
        dueRoots("s3-s", 1, 1, 1, 0, 2, 1);
        dueRoots("s2+2s+1", 0, 0, 2, 0, 2, 0);
    }

    /** As near to the axis, to the circle as 8 P lies beside 800 Q. */
    private static void rootsCloseBy() {
        Edge.of(6, "EVEN ones have none");
        dueRoots(Edge.judge("s", "9s2+9", 800), 0, 0, 2, 0, 2, 0);
        dueRoots(Edge.judge("-s", "9s2+9", 800), 2, 0, 0, 0, 2, 0);
        dueRoots(Edge.judge("0", "9s2+9", 800), 0, 2, 0, 0, 2, 0);
        dueRoots(Edge.judge("1", "9s4+9s3+9s2+9s", 800), 2, 0, 2, 0, 0, 4);
        dueRoots(Edge.judge("-1", "9s4+9s3+9s2+9s", 800), 1, 0, 3, 3, 0, 1);
        dueRoots(Edge.judge("0", "9s4+9s3+9s2+9s", 800), 0, 3, 1, 0, 3, 1);
        dueRoots(Edge.judge("s2", "4s4+8s2+4", 800), 0, 4, 0, 2, 0, 2);
        dueRoots(Edge.judge("-s2", "4s4+8s2+4", 800), 2, 0, 2, 0, 4, 0);
        dueRoots(Edge.judge("0", "4s4+8s2+4", 800), 0, 4, 0, 0, 4, 0);
        Edge.of(6, "EVEN those as far as 1");
        dueRoots(Edge.judge("s", "9s+9", 800), 0, 0, 1, 0, 0, 1);
        dueRoots(Edge.judge("1", "9s+9", 800), 0, 0, 1, 1, 0, 0);
        dueRoots(Edge.judge("0", "9s+9", 800), 0, 0, 1, 0, 1, 0);
        dueRoots(Edge.judge("s4", "9s4+9", 800), 2, 0, 2, 0, 0, 4);
        dueRoots(Edge.judge("1", "9s4+9", 800), 2, 0, 2, 4, 0, 0);
        dueRoots(Edge.judge("0", "-9s4-9", -800), 2, 0, 2, 0, 4, 0);
    }

    private static void steady() {
        Edge.of(6, "STEADY: it has a DEGREE, and all roots are LEFT.");
        int[] both = {Edge.judge("2s+1", "1").roots(0, 3), Edge.judge("2s+1", "1").roots(1, 3)};
        Edge.due(both[0] + 2 * both[1], 3);
        // a number has a DEGREE and no root
        Edge.due(Edge.judge("-3", "1").roots(0, 3), 1);
        Edge.due(Edge.judge("-3", "1").roots(1, 3), 1);
        // one root is EVEN, the others LEFT
        Edge.due(Edge.judge("s4+3s3+3s2+s", "1").roots(0, 3), 0);
        Edge.due(Edge.judge("4s3+8s2+5s+1", "1").roots(1, 3), 0);
        // one root is RIGHT, the others LEFT
        Edge.due(Edge.judge("s2-1", "1").roots(0, 3), 0);
        Edge.due(Edge.judge("2s2+5s+2", "1").roots(1, 3), 0);
    }

    private static void at() {
        Edge.of(7, "The same, were GAIN v.");
        for (int v : new int[] {-800, -9, -8, -7, 0, 800}) {
            for (int by = 0; by < 2; by++) {
                for (int what = 0; what < 4; what++) {
                    LoopJudge told = Edge.judge("s+1", "1", 0);
                    told.gain(v);
                    Edge.due(Edge.judge("s+1", "1", 3).at(by, v, what), told.roots(by, what));
                }
            }
        }
        Edge.due(Edge.judge("s", "-s", 3).at(0, 8, 3), NONE);
        Edge.due(Edge.judge("s", "-s", 8).at(0, 7, 1), 1);
        Edge.due(Edge.judge("s", "1").at(0, 800, 2), 1);
        Edge.due(Edge.judge("s", "1").at(0, -800, 0), 1);
        Edge.changesNothing(Scene.BUSY, judge -> judge.at(0, 5, 0));
        Edge.changesNothing(Scene.BUSY, judge -> judge.at(1, -800, 3));
        Edge.of(7, "BAD.");
        Edge.bad(judge -> judge.at(0, 801, 0));
        Edge.bad(judge -> judge.at(0, -801, 0));
        Edge.bad(judge -> judge.at(1, LEAST, 0));
        Edge.bad(judge -> judge.at(1, MOST, 0));
        Edge.bad(judge -> judge.at(-1, 0, 0));
        Edge.bad(judge -> judge.at(2, 0, 0));
        Edge.bad(judge -> judge.at(MOST, 0, 0));
        Edge.bad(judge -> judge.at(LEAST, 0, 0));
        Edge.bad(judge -> judge.at(0, 0, -1));
        Edge.bad(judge -> judge.at(0, 0, 4));
        Edge.bad(judge -> judge.at(0, 0, LEAST));
        Edge.bad(judge -> judge.at(0, 0, MOST));
        Edge.of(7, "of several BAD ahead of all others");
        Edge.refused(Scene.NOTHING, judge -> judge.at(0, 801, 0), LoopJudge.BAD);
        Edge.refused(Scene.NOTHING, judge -> judge.at(0, 5, 0), NONE);
    }

    /** A row's PARTS, PART 0 first; those that aren't given are 0. */
    private static void dueRow(LoopJudge judge, int i, long... parts) {
        for (int k = 0; k < 5; k++) {
            long v = k < parts.length ? parts[k] : 0;
            Edge.due(judge.row(i, k, 0), Math.abs(v));
            Edge.due(judge.row(i, k, 1), v == 0 ? 0 : v > 0 ? 1 : 2);
        }
    }

    private static void row() {
        Edge.of(8, "PART k (0 .. 4; that of s to the k, 0 where the ROW has none) of ROW i (0 on) of THE LOOP of GAIN");
        LoopJudge judge = Edge.judge("s4+s3+s2+s+1", "s", 8);
        dueRow(judge, 0, 8, 0, 8, 0, 8);
        dueRow(judge, 1, 0, 16, 0, 8);
        Edge.of(8, ": 0 its size without sign, 1 whether it's 0 (0), above 0 (1), below (2)");
        dueRow(Edge.judge("-s4+s3-9s", "s2", 800), 0, 0, 0, 800, 0, -8);
        dueRow(Edge.judge("-s4+s3-9s", "s2", 800), 1, 0, -72, 0, 8);
        Edge.of(8, "NONE: there is no such ROW.");
        Edge.due(judge.rows(), 5);
        Edge.due(judge.row(4, 0, 0), 1);
        Edge.due(judge.row(5, 0, 0), NONE);
        Edge.refused(Scene.NEW, one -> one.row(2, 0, 0), NONE);
        Edge.refused(Scene.NEW, one -> one.row(2, 4, 1), NONE);
        Edge.refused(Scene.BUSY, one -> one.row(MOST, 0, 0), NONE);
        Edge.refused(Scene.NOTHING, one -> one.row(0, 0, 0), NONE);
        Edge.refused(Scene.NOTHING, one -> one.row(0, 4, 1), NONE);
        Edge.of(8, "BAD: also i below 0.");
        Edge.bad(one -> one.row(-1, 0, 0));
        Edge.bad(one -> one.row(LEAST, 0, 1));
        Edge.bad(one -> one.row(0, -1, 0));
        Edge.bad(one -> one.row(0, 5, 0));
        Edge.bad(one -> one.row(0, LEAST, 0));
        Edge.bad(one -> one.row(0, MOST, 0));
        Edge.bad(one -> one.row(0, 0, -1));
        Edge.bad(one -> one.row(0, 0, 2));
        Edge.bad(one -> one.row(0, 0, LEAST));
        Edge.bad(one -> one.row(0, 0, MOST));
        Edge.of(8, "of several BAD ahead of all others");
        Edge.refused(Scene.NOTHING, one -> one.row(0, 5, 0), LoopJudge.BAD);
        Edge.refused(Scene.NEW, one -> one.row(9, 0, 2), LoopJudge.BAD);
        Edge.refused(Scene.NEW, one -> one.row(9, -1, 0), LoopJudge.BAD);
    }

    private static void rowsZeroAndOne() {
        Edge.of(8, "ROW 0 is its PARTS d, d less 2, and so on, ROW 1 the other ones, if they are not all 0;");
        LoopJudge three = Edge.judge("4s3+3s2+2s+1", "1");
        dueRow(three, 0, 0, 16, 0, 32);
        dueRow(three, 1, 8, 0, 24);
        LoopJudge even = Edge.judge("s4+s2+1", "1");
        dueRow(even, 0, 8, 0, 8, 0, 8);
        Edge.due(even.row(1, 0, 0), NONE);
        LoopJudge odd = Edge.judge("s3+2s", "1");
        dueRow(odd, 0, 0, 16, 0, 8);
        Edge.due(odd.row(1, 0, 0), NONE);
        // the highest of the others is missing
        dueRow(Edge.judge("s4+5s", "1"), 1, 0, 40);
        dueRow(Edge.judge("s3-5", "1"), 1, -40);
        // the degree is that of THE LOOP
        dueRow(Edge.judge("s4+s3+s2", "-s4", 8), 0, 0, 0, 0, 8);
        dueRow(Edge.judge("s4+s3+s2", "-s4", 8), 1, 0, 0, 8);
        Edge.of(8, "(ROWS 0, 1 as they are)");
        LoopJudge six = Edge.judge("6s3-6s2+3s-3", "6s3-6s2", 4);
        dueRow(six, 0, 0, 24, 0, 72);
        dueRow(six, 1, -24, 0, -72);
    }

    private static void furtherRows() {
        Edge.of(8, "a further ROW is what remains when the ROW two ahead is divided by the ROW ahead,");
        LoopJudge judge = Edge.judge("s4+2s3+3s2+4s+5", "1");
        dueRow(judge, 2, 5, 0, 1);
        dueRow(judge, 3, 0, -1);
        dueRow(judge, 4, 1);
        // a division of more than one step: 2 s4 + 5 s2 + 7 by 3 s
        dueRow(Edge.judge("2s4+5s2+3s+7", "1"), 2, 1);
        // s4 + s3 + 2 s2 + 2 s + 3: the middle of ROW 2 falls away, and s3 + 2 s by 3 leaves nothing
        dueRow(Edge.judge("s4+s3+2s2+2s+3", "1"), 2, 1);
        Edge.due(Edge.judge("s4+s3+2s2+2s+3", "1").rows(), 3);
        Edge.of(8, "times the number above 0 by which its PARTS are whole and have no common divisor but 1");
        // 5/3 s2 + 1, made whole
        dueRow(Edge.judge("s4+3s3+2s2+s+1", "1"), 2, 3, 0, 5);
        // 4 s2 + 8, made less
        dueRow(Edge.judge("s4+s3+5s2+s+8", "1"), 2, 2, 0, 1);
        // 2 s2 + 4, 3 s2 + 6, where THE LOOP is Q itself
        dueRow(Edge.judge("0", "s4+s3+3s2+s+4", 1), 2, 2, 0, 1);
        dueRow(Edge.judge("0", "s4+s3+4s2+s+6", 1), 2, 2, 0, 1);
        // a leading number below 0 doesn't turn the sign
        LoopJudge minus = Edge.judge("s4-s3+s+1", "1");
        dueRow(minus, 2, 1, 0, 1);
        dueRow(minus, 3, 0, 1);
        dueRow(minus, 4, 1);
        dueRow(Edge.judge("s4-3s3+2s2-s+1", "1"), 2, 3, 0, 5);
        dueRow(Edge.judge("s4+3s3-2s2-s-1", "1"), 2, -3, 0, -5);
        dueRow(Edge.judge("s4-5s-7", "1"), 2, -1);
        dueRow(Edge.judge("-s4-5s-7", "1"), 2, -1);
        Edge.of(8, "as long as something remains.");
        LoopJudge ends = Edge.judge("s3+s2+s+1", "1");
        dueRow(ends, 1, 8, 0, 8);
        Edge.due(ends.row(2, 0, 0), NONE);
        Edge.due(Edge.judge("s4+s3+2s2+s+1", "1").row(2, 2, 0), 1);
        Edge.due(Edge.judge("s4+s3+2s2+s+1", "1").row(3, 0, 0), NONE);
        Edge.due(Edge.judge("s4+s", "1").row(2, 0, 0), NONE);
    }

    /** The largest PARTS that a loop can have, against whole numbers without a bound. */
    private static void rowsOfLargeParts() {
        Edge.of(8, "0 its size without sign");
        for (int signs = 0; signs < 32; signs++) {
            LoopJudge judge = new LoopJudge();
            Model model = new Model();
            for (int k = 0; k < 5; k++) {
                int v = (signs >> k & 1) == 0 ? 9 : -9;
                int less = v > 0 ? v - k : v + k;
                judge.part(1, k, v);
                model.part(1, k, v);
                judge.part(0, k, less);
                model.part(0, k, less);
            }
            int gain = signs % 3 == 0 ? -800 : 800;
            judge.gain(gain);
            model.gain(gain);
            for (int ask = 0; ask < 50; ask++) {
                Edge.due(judge.row(ask / 10, ask / 2 % 5, ask % 2), model.row(ask / 10, ask / 2 % 5, ask % 2));
            }
        }
    }

    private static void rows() {
        Edge.of(9, "How many ROWS THE LOOP of GAIN has.");
        Edge.due(Edge.judge("s4+2s3+3s2+4s+5", "1").rows(), 5);
        Edge.due(Edge.judge("s4+2s3+3s2+4s+5", "s4+s2", -8).rows(), 4);
        Edge.due(Edge.judge("s4", "1").rows(), 1);
        Edge.due(Edge.judge("s+1", "1").rows(), 2);
        Edge.due(Edge.judge("-1", "s").rows(), 1);
        Edge.due(Edge.judge("-1", "s", -1).rows(), 2);
        Edge.of(9, "ROWS of a polynomial with a DEGREE d:");
        Edge.due(Edge.judge("0", "s").rows(), 0);
        Edge.due(Edge.judge("s", "-s", 8).rows(), 0);
        Edge.due(Edge.judge("s", "-s", 7).rows(), 1);
    }

    /** What only asks leaves all as it is. */
    private static void questions() {
        Edge.of(9, "Nothing is promised beyond the answers and state changes described above");
        for (Scene scene : Scene.ALL) {
            Edge.changesNothing(scene, judge -> judge.told(1, 4) + judge.count(3) + judge.roots(1, 0));
            Edge.changesNothing(scene, judge -> judge.rows() + judge.row(1, 1, 1));
            Edge.changesNothing(scene, judge -> judge.span(0, 0, 0) + judge.widest(1, 0, 1) + judge.spans(0, 1));
            Edge.changesNothing(scene, judge -> judge.corners(9) + judge.neighbours(1) + judge.off(7, 0));
            Edge.changesNothing(scene, judge -> judge.judged(0, 0, 1, 4));
        }
    }
}
