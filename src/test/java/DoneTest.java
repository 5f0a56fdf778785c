/** Promises 16 to 22: type, read, drift, undo, seed, image, restore. */
public final class DoneTest {
    public static void main(String[] args) {
        typed();
        textsThatHold();
        faults();
        textsAndTheRest();
        drifts();
        undone();
        seeds();
        images();
        Check.end();
    }

    private static void typed() {
        LoopJudge judge = new LoopJudge();
        Check.due("type(31)", judge.type(31), LoopJudge.BAD);
        Check.due("type(127)", judge.type(127), LoopJudge.BAD);
        Check.due("type(-1)", judge.type(-1), LoopJudge.BAD);
        Check.due("type('s' and 256 more)", judge.type('s' + 256), LoopJudge.BAD);
        for (int i = 1; i <= 59; i++) {
            Check.due("type " + i, judge.type(i % 2 == 0 ? 32 : 126), i);
        }
        Check.due("the sixtieth", judge.type(' '), 60);
        Check.due("one more", judge.type('s'), LoopJudge.FULL);
        Check.due("BAD ahead of FULL", judge.type(31), LoopJudge.BAD);
        Check.due("~ is a fault", judge.read(), -20);
        Check.due("the tape is empty then", judge.type('s'), 1);
        Check.due("what was typed on a full tape isn't there", judge.read(), 1);
        for (int i = 0; i < 59; i++) {
            judge.type(' ');
        }
        judge.type('s');
        Check.due("a text at the very end", judge.read(), 1);
        for (int i = 0; i < 60; i++) {
            judge.type(' ');
        }
        Check.due("sixty blanks", judge.read(), -80);
    }

    private static void dueParts(LoopJudge judge, String text, int which, int... parts) {
        for (int k = 0; k < 5; k++) {
            Check.due("'" + text + "': told(" + which + ", " + k + ")", judge.told(which, k), parts[k] + 9);
        }
    }

    private static void dueText(String text, int degree, int... parts) {
        LoopJudge judge = new LoopJudge();
        Check.due("'" + text + "'", Check.read(judge, text), degree);
        dueParts(judge, text, 0, parts);
        if (parts.length > 5) {
            dueParts(judge, text, 1, java.util.Arrays.copyOfRange(parts, 5, 10));
        } else {
            dueParts(judge, text, 1, 1, 0, 0, 0, 0);
        }
        Check.due("'" + text + "' may be undone", judge.count(4), 1);
    }

    private static void textsThatHold() {
        dueText("1", 0, 1, 0, 0, 0, 0);
        dueText("9", 0, 9, 0, 0, 0, 0);
        dueText("-7", 0, -7, 0, 0, 0, 0);
        dueText("s", 1, 0, 1, 0, 0, 0);
        dueText("-s", 1, 0, -1, 0, 0, 0);
        dueText("3s", 1, 0, 3, 0, 0, 0);
        dueText("s2", 2, 0, 0, 1, 0, 0);
        dueText("s4", 4, 0, 0, 0, 0, 1);
        dueText("-9s4-8s3-7s2-6s-5", 4, -5, -6, -7, -8, -9);
        dueText("s4+2s3-3s2+4s-5;-5s4+4s3-3s2+2s-1", 4, -5, 4, -3, 2, 1, -1, 2, -3, 4, -5);
        dueText(" 2 s 3 - 4 ; - s ", 3, -4, 0, 0, 2, 0, 0, -1, 0, 0, 0);
        dueText("s+1;3", 1, 1, 1, 0, 0, 0, 3, 0, 0, 0, 0);
    }

    private static void dueFault(String text, int place) {
        LoopJudge judge = new LoopJudge();
        judge.part(0, 0, 5);
        Check.due("'" + text + "'", Check.read(judge, text), -20 - place);
        dueParts(judge, text, 0, 5, 1, 0, 0, 0);
        dueParts(judge, text, 1, 1, 0, 0, 0, 0);
        Check.due("'" + text + "' isn't to be undone", judge.count(4), 1);
        Check.due("'" + text + "' leaves no letter", judge.type('s'), 1);
    }

    private static void faults() {
        dueFault("", 0);
        dueFault("   ", 3);
        dueFault("0", 0);
        dueFault("+s", 0);
        dueFault(";s", 0);
        dueFault("x", 0);
        dueFault("S", 0);
        dueFault("-", 1);
        dueFault("- ", 2);
        dueFault("--s", 1);
        dueFault("-0", 1);
        dueFault("12", 1);
        dueFault("1 2", 2);
        dueFault("10", 1);
        dueFault("s0", 1);
        dueFault("s1", 1);
        dueFault("s5", 1);
        dueFault("ss", 1);
        dueFault("s22", 2);
        dueFault("s  x", 3);
        dueFault("s+", 2);
        dueFault("s+  ", 4);
        dueFault("s+-1", 2);
        dueFault("s+0", 2);
        dueFault("s;", 2);
        dueFault("s;+1", 2);
        dueFault("s;0", 2);
        dueFault("s;1;", 3);
        dueFault("s;-", 3);
        dueFault("s;1 x", 4);
        // a term whose power isn't less, ahead of what stands behind it
        dueFault("s+s", 2);
        dueFault("s+s5", 2);
        dueFault("s+s;", 2);
        dueFault("s+ s", 3);
        dueFault("s - 3 s 2 x", 4);
        dueFault("1+1", 2);
        dueFault("1+22", 2);
        dueFault("1+s", 2);
        dueFault("s2+2s3+", 3);
        dueFault("s4+s3+s2+s+1+1", 13);
        dueFault("s4+s3+s2+s+1+0", 13);
        dueFault("s;s2+4s2", 5);
        dueFault("s;s2+4s2;", 5);
        // what stands ahead of such a term comes first
        dueFault("sx+s", 1);
    }

    private static void textsAndTheRest() {
        LoopJudge judge = new LoopJudge();
        judge.gain(5);
        Check.read(judge, "s2+1;s+3");
        Check.due("GAIN stays", judge.count(0), 805);
        Check.read(judge, "4");
        dueParts(judge, "4", 0, 4, 0, 0, 0, 0);
        dueParts(judge, "4", 1, 3, 1, 0, 0, 0);
        Check.due("undone", judge.undo(), 2);
        dueParts(judge, "undone", 0, 1, 0, 1, 0, 0);
        Check.due("undone", judge.undo(), 1);
        dueParts(judge, "undone", 0, 1, 1, 0, 0, 0);
        dueParts(judge, "undone", 1, 1, 0, 0, 0, 0);
        Check.read(judge, "s+1");
        Check.due("a text that changes nothing may be undone", judge.count(4), 2);
    }

    private static void drifts() {
        LoopJudge judge = new LoopJudge();
        Check.due("drift(0)", judge.drift(0), LoopJudge.BAD);
        Check.due("drift(41)", judge.drift(41), LoopJudge.BAD);
        Check.due("drift(-1)", judge.drift(-1), LoopJudge.BAD);
        long draw = 1;
        int[] parts = {1, 1, 0, 0, 0, 1, 0, 0, 0, 0};
        for (int turn = 1; turn <= 300; turn++) {
            draw = (draw * 1103515245L + 12345L) % (1L << 31);
            int x = (int) (draw / 65536);
            parts[x % 2 * 5 + x / 2 % 5] = x / 16 % 19 - 9;
            int degree = 4;
            while (degree >= 0 && parts[degree] == 0) {
                degree--;
            }
            Check.due("turn " + turn, judge.drift(1), degree < 0 ? LoopJudge.NONE : degree);
        }
        dueParts(judge, "drifted", 0, java.util.Arrays.copyOf(parts, 5));
        dueParts(judge, "drifted", 1, java.util.Arrays.copyOfRange(parts, 5, 10));
        Check.due("THE DRAW", judge.seed(0), draw);
        LoopJudge once = new LoopJudge();
        for (int n = 0; n < 7; n++) {
            once.drift(40);
        }
        once.drift(20);
        Check.due("THE DRAW, forty at once", once.seed(0), draw);
        nothingLeft();
        changesNothing();
    }

    /** A drift by which P has no DEGREE is done all the same. */
    private static void nothingLeft() {
        LoopJudge judge = new LoopJudge();
        judge.part(0, 1, 0);
        judge.part(0, 0, 0);
        for (int seed = 0; seed < 100000; seed++) {
            if (judge.count(1) != LoopJudge.NONE) {
                judge.undo();
            }
            judge.seed(seed);
            int answer = judge.drift(1);
            Check.due("by seed " + seed, answer, judge.count(1));
            if (answer == LoopJudge.NONE) {
                Check.holds("THE DRAW goes on", judge.seed(0) != seed);
                Check.holds("it may be undone", judge.count(4) > 0);
                return;
            }
        }
        Check.holds("some drift leaves P without a degree", false);
    }

    private static void changesNothing() {
        LoopJudge judge = new LoopJudge();
        judge.drift(1);
        int draw = judge.seed(1);
        Check.due("the same turn again", judge.drift(1), judge.count(1));
        Check.due("may be undone, too", judge.count(4), 2);
        judge.undo();
        Check.due("THE DRAW is as ahead of it", judge.seed(draw), 1);
    }

    private static void undone() {
        LoopJudge judge = new LoopJudge();
        for (int v = 2; v <= 9; v++) {
            judge.part(0, 0, v);
        }
        Check.due("six are known", judge.count(4), 6);
        for (int more = 5; more >= 0; more--) {
            Check.due("undo()", judge.undo(), more);
            Check.due("PART 0", judge.told(0, 0), more + 3 + 9);
        }
        Check.due("older ones are lost", judge.undo(), LoopJudge.NONE);
        Check.due("nothing changes then", judge.told(0, 0), 12);
        judge.part(1, 3, 2);
        judge.gain(7);
        judge.seed(500);
        Check.due("the gain is undone", judge.undo(), 1);
        Check.due("GAIN", judge.count(0), 800);
        Check.due("THE DRAW, too", judge.seed(77), 1);
        Check.due("the part is undone", judge.undo(), 0);
        Check.due("THE DRAW as ahead of the part", judge.seed(1), 1);
        Check.due("PART 3 of Q", judge.told(1, 3), 9);
        judge.drift(3);
        Check.due("three turns", judge.count(4), 3);
        judge.undo();
        judge.undo();
        judge.undo();
        Check.due("THE DRAW as at first", judge.seed(1), 1);
    }

    private static void seeds() {
        LoopJudge judge = new LoopJudge();
        Check.due("seed(-1)", judge.seed(-1), LoopJudge.BAD);
        Check.due("seed of the least number", judge.seed(Integer.MIN_VALUE), LoopJudge.BAD);
        Check.due("seed(max)", judge.seed(Integer.MAX_VALUE), 1);
        Check.due("seed(max) again", judge.seed(Integer.MAX_VALUE), Integer.MAX_VALUE);
        Check.due("seed(0)", judge.seed(0), Integer.MAX_VALUE);
        Check.due("it isn't to be undone", judge.count(4), 0);
        judge.drift(1);
        Check.due("THE DRAW behind 0", judge.seed(0), 12345);
    }

    private static void images() {
        LoopJudge judge = new LoopJudge();
        Check.due("restore at first", judge.restore(), LoopJudge.NONE);
        Check.read(judge, "s2+3;s");
        judge.gain(9);
        judge.seed(4);
        judge.type('s');
        judge.sheet(0, 0, 3);
        Check.due("image()", judge.image(), 1);
        judge.type('2');
        judge.sheet(0, 0, 7);
        judge.undo();
        judge.undo();
        judge.drift(8);
        Check.due("restore()", judge.restore(), 1);
        dueParts(judge, "restored", 0, 3, 0, 1, 0, 0);
        dueParts(judge, "restored", 1, 0, 1, 0, 0, 0);
        Check.due("GAIN restored", judge.count(0), 809);
        Check.due("two may be undone", judge.count(4), 2);
        Check.due("THE DRAW restored", judge.seed(6), 4);
        Check.due("sheets stay", judge.drop(0), 7);
        Check.due("the tape stays", judge.type(' '), 3);
        Check.due("undone behind it", judge.undo(), 1);
        Check.due("GAIN undone", judge.count(0), 800);
        Check.due("undone behind it", judge.undo(), 0);
        dueParts(judge, "undone", 0, 1, 1, 0, 0, 0);
        Check.due("restore() once more", judge.restore(), 1);
        Check.due("GAIN once more", judge.count(0), 809);
        Check.due("two may be undone once more", judge.count(4), 2);
        judge.gain(10);
        Check.due("a newer image", judge.image(), 1);
        judge.gain(11);
        judge.restore();
        Check.due("is the one that counts", judge.count(0), 810);
    }
}
