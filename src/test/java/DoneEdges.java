/** The edges of promises 16 to 22: type, read, drift, undo, seed, image, restore. */
final class DoneEdges {
    private static final int NONE = LoopJudge.NONE, BAD = LoopJudge.BAD, FULL = LoopJudge.FULL;
    private static final int LEAST = Integer.MIN_VALUE, MOST = Integer.MAX_VALUE;

    private DoneEdges() {
    }

    static void run() {
        type();
        read();
        termsInARow();
        terms();
        firstLetterThatCannotStand();
        powersThatAreNotLess();
        blanks();
        drift();
        driftedNumbers();
        driftIsUndone();
        undo();
        undoneWhateverWasTold();
        sixAreKnown();
        seed();
        image();
        restore();
    }

    private static void type() {
        Edge.of(16, "One letter more behind THE TAPE: how many it has.");
        LoopJudge judge = new LoopJudge();
        for (int many = 1; many <= 60; many++) {
            Edge.due(judge.type(many % 2 == 0 ? 32 : 126), many);
        }
        LoopJudge behind = new LoopJudge();
        Edge.due(behind.type('2'), 1);
        Edge.due(behind.type('s'), 2);
        Edge.due(behind.read(), 1);
        Edge.dueParts(behind, 0, 0, 2, 0, 0, 0);
        Edge.due(behind.type('s'), 1);
        Edge.of(16, "BAD: not 32 .. 126");
        Edge.bad(one -> one.type(31));
        Edge.bad(one -> one.type(127));
        Edge.bad(one -> one.type(-1));
        Edge.bad(one -> one.type(0));
        Edge.bad(one -> one.type('s' + 256));
        Edge.bad(one -> one.type('s' + 65536));
        Edge.bad(one -> one.type(LEAST));
        Edge.bad(one -> one.type(MOST));
        Edge.of(16, "FULL: 60.");
        Edge.refused(Scene.FULL_TAPE, one -> one.type('9'), FULL);
        Edge.refused(Scene.FULL_TAPE, one -> one.type(' '), FULL);
        LoopJudge full = Scene.FULL_TAPE.make();
        full.type('9');
        Edge.due(full.read(), 3);
        Edge.due(full.type('9'), 1);
        Edge.of(16, "of several BAD ahead of all others");
        Edge.refused(Scene.FULL_TAPE, one -> one.type(31), BAD);
        Edge.refused(Scene.FULL_TAPE, one -> one.type(127), BAD);
    }

    /** A text that holds: the DEGREE that is answered, then PARTS of P, and of Q if they are told. */
    private static void dueText(String text, int degree, int... parts) {
        LoopJudge judge = Edge.judge("5s4+5s3+5s2+5s+5", "6s4+6s3+6s2+6s+6", 3);
        Edge.due(Check.read(judge, text), degree);
        for (int k = 0; k < 10; k++) {
            Edge.due(judge.told(k / 5, k % 5), 9 + (k < parts.length ? parts[k] : 6));
        }
        Edge.due(judge.count(0), 803);
        Edge.due(judge.count(4), 3);
        Edge.due(judge.type('s'), 1);
    }

    /** A FAULT: its place; all else stays, but for the tape. */
    private static void dueFault(String text, int place) {
        Edge.refused(Scene.STILL, judge -> Check.read(judge, text), -20 - place);
    }

    private static void read() {
        Edge.of(17, "THE TAPE, which is empty then (by a FAULT, too), is a TEXT");
        dueText("s", 1, 0, 1, 0, 0, 0);
        LoopJudge judge = new LoopJudge();
        judge.type('s');
        judge.type('x');
        Edge.due(judge.read(), -21);
        Edge.due(judge.read(), -20);
        Edge.due(judge.type('9'), 1);
        Edge.due(judge.read(), 0);
        Edge.due(judge.read(), -20);
        LoopJudge full = new LoopJudge();
        Scene.type(full, "~".repeat(60));
        Edge.due(full.read(), -20);
        Edge.due(full.type('s'), 1);
        Edge.of(17, "(Q stays, if it isn't told): DEGREE of P.");
        dueText("9", 0, 9, 0, 0, 0, 0);
        dueText("-s4", 4, 0, 0, 0, 0, -1);
        dueText("9;8s4", 0, 9, 0, 0, 0, 0, 0, 0, 0, 0, 8);
        dueText("s3;1", 3, 0, 0, 0, 1, 0, 1, 0, 0, 0, 0);
        Edge.of(17, "A FAULT: -20 less its place (all else stays).");
        dueFault("0", 0);
        dueFault("s+", 2);
        dueFault("3s4+3;0", 6);
        dueFault(" ".repeat(59) + "x", 59);
        dueFault(" ".repeat(60), 60);
        Edge.of(17, "What is refused changes nothing, but as told.");
        Scene typed = Scene.BUSY.then(one -> one.type('x'));
        Edge.due(typed.make().read(), -27);
        Edge.holds(typed.then(LoopJudge::read).look().equals(Scene.STILL.look()));
        Edge.refused(Scene.STILL, LoopJudge::read, -20);
    }

    private static void termsInARow() {
        Edge.of(17, "A TEXT tells P, perhaps then ; and Q:");
        dueText("s;s", 1, 0, 1, 0, 0, 0, 0, 1, 0, 0, 0);
        dueText("-2;-3s4", 0, -2, 0, 0, 0, 0, 0, 0, 0, 0, -3);
        dueFault(";", 0);
        dueFault(";s", 0);
        dueFault("s;s;", 3);
        dueFault("s;s;s", 3);
        dueFault("s:s", 1);
        Edge.of(17, "TERMS in a row, one at least,");
        dueText("s4+2s3+3s2+4s+5;-5s4-4s3-3s2-2s-1", 4, 5, 4, 3, 2, 1, -1, -2, -3, -4, -5);
        dueFault("", 0);
        dueFault("s;", 2);
        dueFault("-", 1);
        dueFault("s;-", 3);
        Edge.of(17, "the first one with - ahead of it or not, others each with + or - .");
        dueText("-s2-s+1", 2, 1, -1, -1, 0, 0);
        dueText("s2;-s2+1", 2, 0, 0, 1, 0, 0, 1, 0, -1, 0, 0);
        dueFault("+s", 0);
        dueFault("s2;+s", 3);
        dueFault("--s", 1);
        dueFault("-+s", 1);
        dueFault("s2+-s", 3);
        dueFault("s2-+s", 3);
        dueFault("s2++s", 3);
        dueFault("s2*s", 2);
        dueFault("s2s", 2);
        dueFault("s 1", 2);
    }

    private static void terms() {
        Edge.of(17, "A TERM: a figure 1 .. 9, s, a figure 2 .. 4 (the power);");
        dueText("1s2", 2, 0, 0, 1, 0, 0);
        dueText("9s4", 4, 0, 0, 0, 0, 9);
        dueText("5s3", 3, 0, 0, 0, 5, 0);
        dueFault("0s2", 0);
        dueFault("s0", 1);
        dueFault("s1", 1);
        dueFault("s5", 1);
        dueFault("s9", 1);
        dueFault("s22", 2);
        dueFault("12s", 1);
        dueFault("s+10", 3);
        dueFault(":s", 0);
        dueFault("/s", 0);
        dueFault("S", 0);
        dueFault("x", 0);
        dueFault("r", 0);
        dueFault("t", 0);
        Edge.of(17, "the first figure may be missing where there is an s (1 then), the power (1 then), s and the power (0 then).");
        dueText("s2", 2, 0, 0, 1, 0, 0);
        dueText("-s4", 4, 0, 0, 0, 0, -1);
        dueText("s", 1, 0, 1, 0, 0, 0);
        dueText("7s", 1, 0, 7, 0, 0, 0);
        dueText("7", 0, 7, 0, 0, 0, 0);
        dueText("s+1", 1, 1, 1, 0, 0, 0);
        dueText("-9", 0, -9, 0, 0, 0, 0);
        Edge.of(17, "Told alone 0 is no TERM.");
        dueFault("0", 0);
        dueFault("-0", 1);
        dueFault("s+0", 2);
        dueFault("s;0", 2);
        dueFault("1+0", 2);
        dueFault("s4+s3+s2+s+1-0", 13);
    }

    private static void firstLetterThatCannotStand() {
        Edge.of(17, "A FAULT is the first letter (behind blanks) that can't stand there");
        dueFault("x+x", 0);
        dueFault("sx+y", 1);
        dueFault("  x", 2);
        dueFault("s  x", 3);
        dueFault("s +  x", 5);
        dueFault("2 3", 2);
        dueFault("s 2 3", 4);
        dueFault("s;  +", 4);
        dueFault("s;1  ;", 5);
        dueFault("sx+s2", 1);
        Edge.of(17, "(the end: how many letters there are)");
        dueFault("", 0);
        dueFault(" ", 1);
        dueFault("s+", 2);
        dueFault("s+   ", 5);
        dueFault("s;", 2);
        dueFault("s ; ", 4);
        dueFault("-  ", 3);
        dueFault("s" + " ".repeat(58) + "-", 60);
    }

    private static void powersThatAreNotLess() {
        Edge.of(17, "Powers get less from TERM to TERM.");
        dueText("9s4+1", 4, 1, 0, 0, 0, 9);
        dueText("s3+s", 3, 0, 1, 0, 1, 0);
        dueText("s;s4", 1, 0, 1, 0, 0, 0, 0, 0, 0, 0, 1);
        dueFault("s4+s4", 3);
        dueFault("s3+s4", 3);
        dueFault("s2+s3", 3);
        dueFault("s+s2", 2);
        dueFault("s+s", 2);
        dueFault("1+s", 2);
        dueFault("1+1", 2);
        dueFault("s4+1+s", 5);
        dueFault("s4+s+s2", 5);
        dueFault("s;s+s", 4);
        dueFault("1;2-3", 4);
        Edge.of(17, ", or the first letter (behind its sign) of a TERM whose power isn't less than that ahead");
        dueFault("s-s", 2);
        dueFault("s+2s", 2);
        dueFault("s +  3 s", 5);
        dueFault("s4+s3 - 2 s 4", 8);
        Edge.of(17, "(told when that TERM is over, ahead of what stands behind it).");
        dueFault("s+sx", 2);
        dueFault("s+s5", 2);
        dueFault("s+s1", 2);
        dueFault("s+s+", 2);
        dueFault("s+s;", 2);
        dueFault("s+s;x", 2);
        dueFault("s+s s", 2);
        dueFault("1+22", 2);
        dueFault("1+2x", 2);
        dueFault("s2+s2 2", 3);
        dueFault("s2+s2;0", 3);
        dueFault("s;s+3s9", 4);
        // it is over at its power: with it s3 is less than s4
        dueText("s4+s3", 4, 0, 0, 0, 1, 1);
        dueFault("s2+s4", 3);
        // not ahead of what stands ahead of it, nor of what stands in it
        dueFault("sx+s", 1);
        dueFault("s+x", 2);
        dueFault("1+0", 2);
        dueFault("s+", 2);
    }

    private static void blanks() {
        Edge.of(17, "Blanks count for nothing.");
        dueText("   s   ", 1, 0, 1, 0, 0, 0);
        dueText(" - 2 s 4 - s + 9 ; - 3 s ", 4, 9, -1, 0, 0, -2, 0, -3, 0, 0, 0);
        dueText("s 2", 2, 0, 0, 1, 0, 0);
        dueText("3  s", 1, 0, 3, 0, 0, 0);
        dueText(" ".repeat(59) + "4", 0, 4, 0, 0, 0, 0);
        dueText("4" + " ".repeat(59), 0, 4, 0, 0, 0, 0);
        dueText("s" + " ".repeat(58) + "3", 3, 0, 0, 0, 1, 0);
    }

    private static void drift() {
        Edge.of(18, "A DRIFT of n turns (1 .. 40;");
        for (int n : new int[] {1, 2, 39, 40}) {
            LoopJudge judge = new LoopJudge();
            LoopJudge single = new LoopJudge();
            int degree = judge.drift(n);
            for (int turn = 1; turn < n; turn++) {
                single.drift(1);
            }
            Edge.due(degree, single.drift(1));
            for (int k = 0; k < 10; k++) {
                Edge.due(judge.told(k / 5, k % 5), single.told(k / 5, k % 5));
            }
            Edge.due(judge.seed(0), single.seed(0));
            Edge.due(judge.count(4), Math.min(n, 6));
        }
        Edge.bad(one -> one.drift(0));
        Edge.bad(one -> one.drift(41));
        Edge.of(18, ": DEGREE of P then (NONE).");
        // by 0 PART 0 of P becomes -9; by 132 it becomes 0
        LoopJudge one = new LoopJudge();
        one.seed(0);
        Edge.due(one.drift(1), 1);
        Edge.dueParts(one, 0, -9, 1, 0, 0, 0);
        LoopJudge gone = Edge.judge("7", "1");
        gone.seed(132);
        Edge.due(gone.drift(1), NONE);
        Edge.dueParts(gone, 0, 0, 0, 0, 0, 0);
        Edge.due(gone.undo(), 1);
        Edge.dueParts(gone, 0, 7, 0, 0, 0, 0);
        Edge.due(gone.seed(0), 132);
        // P has none already, and Q is drifted
        LoopJudge none = Edge.judge("0", "1");
        none.seed(MOST);
        Edge.due(none.drift(1), NONE);
        Edge.due(none.told(1, 4), 7);
        Edge.due(none.count(4), 3);
        Edge.of(18, "BAD.");
        Edge.bad(judge -> judge.drift(-1));
        Edge.bad(judge -> judge.drift(LEAST));
        Edge.bad(judge -> judge.drift(MOST));
    }

    private static void driftedNumbers() {
        Edge.of(18, "DRIFT by a seed: THE DRAW is a number of 31 bits (1 at first); for each turn it becomes the lowest 31 bits of itself times 1103515245 and 12345 more:");
        dueDraw(0, 12345);
        dueDraw(1, 1103527590);
        dueDraw(2, 59559187);
        dueDraw(MOST, 1043980748);
        dueDraw(1 << 30, (1 << 30) + 12345);
        // 12345 more just reach the greatest number of 31 bits, just pass it, and pass it by as much as can be
        dueDraw(230538014, MOST);
        dueDraw(2088216195, 0);
        dueDraw(289805467, 12344);
        // of the numbers behind MOST the first has 31 bits again, all of them stay at 0 or above
        LoopJudge judge = new LoopJudge();
        judge.seed(MOST);
        long draw = MOST;
        for (int turn = 0; turn < 200; turn++) {
            judge.drift(1);
            draw = (draw * 1103515245L + 12345L) & 0x7fffffffL;
            int now = judge.seed(0);
            Edge.due(now, draw);
            judge.seed(now);
        }
        Edge.of(18, "x is it by 65536 (cut): of P, Q (x left over by 2) PART (x by 2, cut) left over by 5 becomes (x by 16, cut) left over by 19, less 9.");
        int[] least = new int[10];
        int[] most = new int[10];
        for (int seed = 0; seed < 4000; seed++) {
            long next = (seed * 1103515245L + 12345L) % (1L << 31);
            int x = (int) (next / 65536);
            LoopJudge one = new LoopJudge();
            one.seed(seed);
            one.drift(1);
            int place = x % 2 * 5 + x / 2 % 5;
            int v = x / 16 % 19 - 9;
            for (int k = 0; k < 10; k++) {
                int due = k == place ? v : k == 0 || k == 1 || k == 5 ? 1 : 0;
                Edge.due(one.told(k / 5, k % 5), due + 9);
            }
            least[place] = Math.min(least[place], v);
            most[place] = Math.max(most[place], v);
        }
        for (int place = 0; place < 10; place++) {
            Edge.due(least[place], -9);
            Edge.due(most[place], 9);
        }
    }

    private static void dueDraw(int seed, int next) {
        LoopJudge judge = new LoopJudge();
        judge.seed(seed);
        judge.drift(1);
        Edge.due(judge.seed(0), next);
    }

    private static void driftIsUndone() {
        Edge.of(18, "each may be UNDONE, one that changes nothing, too)");
        LoopJudge judge = new LoopJudge();
        Edge.due(judge.drift(3), judge.count(1));
        Edge.due(judge.count(4), 3);
        Edge.due(judge.undo(), 2);
        int draw = judge.seed(0);
        judge.seed(draw);
        LoopJudge two = new LoopJudge();
        two.drift(2);
        Edge.due(draw, two.seed(0));
        for (int k = 0; k < 10; k++) {
            Edge.due(judge.told(k / 5, k % 5), two.told(k / 5, k % 5));
        }
        // the second turn by 0 makes PART 0 of P the -9 that it is
        LoopJudge same = new LoopJudge();
        same.seed(0);
        same.drift(1);
        same.seed(0);
        Edge.due(same.drift(1), 1);
        Edge.due(same.count(4), 2);
        Edge.due(same.seed(5), 12345);
        Edge.due(same.undo(), 1);
        Edge.due(same.seed(5), 0);
        Edge.dueParts(same, 0, -9, 1, 0, 0, 0);
        Edge.due(same.undo(), 0);
        Edge.dueParts(same, 0, 1, 1, 0, 0, 0);
    }

    private static void undo() {
        Edge.of(19, "UNDONE: how many more may be.");
        LoopJudge judge = new LoopJudge();
        judge.part(0, 0, 5);
        judge.gain(1);
        Edge.due(judge.undo(), 1);
        Edge.due(judge.undo(), 0);
        Edge.of(19, "NONE: none is known.");
        Edge.due(judge.undo(), NONE);
        Edge.refused(Scene.NEW, LoopJudge::undo, NONE);
        Edge.refused(Scene.NO_PAST, LoopJudge::undo, NONE);
        Edge.of(19, "UNDONE: the latest of a PART, a GAIN told, of a TEXT, a turn of a DRIFT, is as it had not been");
        dueUndone(one -> one.part(0, 4, -9));
        dueUndone(one -> one.part(1, 0, 9));
        dueUndone(one -> one.gain(-800));
        dueUndone(one -> Check.read(one, "9s4"));
        dueUndone(one -> Check.read(one, "s4-s;-s4+s"));
        dueUndone(one -> one.drift(1));
        // a text that tells what is so is a text, too
        dueUndone(one -> Check.read(one, "s+1"));
        // what isn't one of them isn't known
        Edge.due(Scene.NEW.then(one -> one.seed(5)).make().count(4), 0);
        Edge.due(Scene.NEW.then(LoopJudge::image).make().count(4), 0);
        Edge.due(Scene.NEW.then(one -> one.sheet(0, 0, 9)).make().count(4), 0);
        Edge.due(Scene.NEW.then(one -> one.type('s')).make().count(4), 0);
        Edge.due(Scene.NEW.then(one -> one.part(0, 0, 1)).make().count(4), 0);
        Edge.due(Scene.NEW.then(one -> one.gain(0)).make().count(4), 0);
        Edge.due(Scene.NEW.then(LoopJudge::read).make().count(4), 0);
    }

    /** Whatever the call does to a new judge, one undo brings back all of it. */
    private static void dueUndone(Scene.Call call) {
        Scene done = Scene.NEW.then(call);
        Edge.due(done.make().count(4), 1);
        Edge.due(done.make().undo(), 0);
        Edge.holds(done.then(LoopJudge::undo).look().equals(Scene.NEW.look()));
    }

    private static void undoneWhateverWasTold() {
        Edge.of(19, "P, Q, GAIN, THE DRAW are as ahead of it, whatever was told since.");
        LoopJudge judge = Edge.judge("s2+3", "s-3", 17);
        judge.seed(1000);
        judge.part(0, 4, 2);
        judge.seed(2000);
        Edge.due(judge.undo(), 2);
        Edge.dueParts(judge, 0, 3, 0, 1, 0, 0);
        Edge.dueParts(judge, 1, -3, 1, 0, 0, 0);
        Edge.due(judge.count(0), 817);
        Edge.due(judge.seed(3000), 1000);
        // GAIN was told when THE DRAW was 1: undone, it is 1 again
        Edge.due(judge.undo(), 1);
        Edge.due(judge.count(0), 800);
        Edge.due(judge.seed(7), 1);
        // sheets and the tape are as they are
        LoopJudge rest = new LoopJudge();
        rest.gain(5);
        rest.type('4');
        rest.sheet(1, 2, 3);
        rest.undo();
        Edge.due(rest.type('s'), 2);
        Edge.due(rest.read(), 1);
        Edge.dueParts(rest, 0, 0, 4, 0, 0, 0);
        Edge.due(rest.drop(1), 3);
    }

    private static void sixAreKnown() {
        Edge.of(19, "(6 are known, older ones lost)");
        for (int told = 5; told <= 20; told++) {
            LoopJudge judge = new LoopJudge();
            for (int v = 1; v <= told; v++) {
                judge.gain(v);
            }
            int known = Math.min(told, 6);
            Edge.due(judge.count(4), known);
            for (int left = known - 1; left >= 0; left--) {
                Edge.due(judge.undo(), left);
                Edge.due(judge.count(0), 800 + told - known + left);
            }
            Edge.due(judge.undo(), NONE);
            Edge.due(judge.count(0), 800 + told - known);
        }
        // undone ones make room: three of six are undone, four are told, one is lost
        LoopJudge judge = new LoopJudge();
        for (int v = 1; v <= 6; v++) {
            judge.gain(v);
        }
        judge.undo();
        judge.undo();
        judge.undo();
        for (int v = 11; v <= 14; v++) {
            judge.gain(v);
        }
        int[] due = {13, 12, 11, 3, 2, 1};
        for (int n = 0; n < 6; n++) {
            Edge.due(judge.undo(), 5 - n);
            Edge.due(judge.count(0), 800 + due[n]);
        }
        Edge.due(judge.undo(), NONE);
        LoopJudge drifted = new LoopJudge();
        drifted.drift(40);
        LoopJudge before = new LoopJudge();
        before.drift(34);
        for (int left = 5; left >= 0; left--) {
            Edge.due(drifted.undo(), left);
        }
        Edge.due(drifted.undo(), NONE);
        Edge.due(drifted.seed(0), before.seed(0));
    }

    private static void seed() {
        Edge.of(20, "THE DRAW becomes v: what it was.");
        LoopJudge judge = new LoopJudge();
        Edge.due(judge.seed(0), 1);
        Edge.due(judge.seed(MOST), 0);
        Edge.due(judge.seed(MOST), MOST);
        Edge.due(judge.seed(1), MOST);
        Edge.due(judge.count(4), 0);
        Edge.of(20, "BAD: below 0.");
        Edge.bad(one -> one.seed(-1));
        Edge.bad(one -> one.seed(LEAST));
    }

    private static void image() {
        Edge.of(21, "All but SHEETS, THE TAPE is kept as an IMAGE (what may be UNDONE, too): 1.");
        Edge.due(new LoopJudge().image(), 1);
        Edge.due(Scene.BUSY.make().image(), 1);
        Scene kept = Scene.BUSY.then(LoopJudge::image);
        // all else is as it was, whatever comes between: six undone, forty drifted
        Scene undone = kept.then(one -> one.undo() + one.undo() + one.undo() + one.undo() + one.undo() + one.undo());
        Edge.holds(undone.then(LoopJudge::restore).look().equals(kept.look()));
        Scene drifted = kept.then(one -> one.drift(40) + one.gain(333) + one.seed(8));
        Edge.holds(drifted.then(LoopJudge::restore).look().equals(kept.look()));
        // the newest counts, and it is not told by what comes behind it
        LoopJudge judge = new LoopJudge();
        judge.gain(1);
        judge.image();
        judge.gain(2);
        Edge.due(judge.image(), 1);
        judge.gain(3);
        judge.restore();
        Edge.due(judge.count(0), 802);
        Edge.due(judge.count(4), 2);
        // SHEETS and THE TAPE are not in it
        LoopJudge rest = new LoopJudge();
        rest.type('4');
        rest.sheet(0, 0, 9);
        rest.image();
        rest.type('s');
        rest.sheet(0, 1, 8);
        rest.sheet(1, 0, 7);
        rest.restore();
        Edge.due(rest.drop(0), 8);
        Edge.due(rest.drop(1), 7);
        Edge.due(rest.type('2'), 3);
        Edge.due(rest.read(), 2);
    }

    private static void restore() {
        Edge.of(22, "All is as it was then: 1.");
        Edge.due(Scene.BUSY.make().restore(), 1);
        Scene kept = Scene.BUSY.then(LoopJudge::image);
        Edge.due(kept.make().restore(), 1);
        Edge.holds(kept.then(LoopJudge::restore).look().equals(kept.look()));
        Scene twice = kept.then(LoopJudge::restore).then(one -> one.drift(9) + one.undo()).then(LoopJudge::restore);
        Edge.holds(twice.look().equals(kept.look()));
        // what is told behind a restore doesn't reach into the image
        LoopJudge judge = new LoopJudge();
        judge.gain(4);
        judge.image();
        judge.restore();
        judge.gain(5);
        judge.part(1, 1, 1);
        judge.seed(9);
        Edge.due(judge.restore(), 1);
        Edge.due(judge.count(0), 804);
        Edge.due(judge.told(1, 1), 9);
        Edge.due(judge.seed(1), 1);
        Edge.due(judge.undo(), 0);
        Edge.due(judge.count(0), 800);
        Edge.due(judge.undo(), NONE);
        // an image of a judge to which nothing was told yet
        LoopJudge first = new LoopJudge();
        first.image();
        first.drift(7);
        Edge.due(first.restore(), 1);
        Edge.due(first.count(4), 0);
        Edge.dueParts(first, 0, 1, 1, 0, 0, 0);
        Edge.of(22, "NONE: there is none.");
        Edge.refused(Scene.NEW, LoopJudge::restore, NONE);
        Edge.refused(Scene.NO_IMAGE, LoopJudge::restore, NONE);
    }
}
