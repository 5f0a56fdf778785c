import java.util.Random;

/** Long runs of drawn calls, ordinary ones and wrong ones, on the class and on the model: promises 1 to 28. */
public final class ModelTest {
    private static final String[] TEXTS = {
        "s4+2s3+3s2+2s+1", "2s2+3s+1;s", "s3+s2+2s+1", "-s2-s-1;s+1", "9s4-8s3+7s2-6s+5;-4s4+3s3-2s2+s-1",
        "s+s", "s;;", "4s2 + 2 s 3", "1+1x", "s2+s5", "s+ 2 s", "- s 3", "+s", "s2;1+s+", " ", "0", "7;-8"};
    private static final String LETTERS = "ssss2345610+--+; x";

    private final Random random;
    private final LoopJudge judge = new LoopJudge();
    private final Model model = new Model();
    private final int run;

    private ModelTest(int run) {
        this.run = run;
        this.random = new Random(run);
    }

    public static void main(String[] args) {
        int runs = args.length > 0 ? Integer.parseInt(args[0]) : 60;
        for (int run = 0; run < runs && !Check.anyWrong(); run++) {
            ModelTest test = new ModelTest(run);
            for (int call = 0; call < 400; call++) {
                test.oneCall();
            }
        }
        Check.end();
    }

    private void due(String call, long got, long want) {
        Check.due("run " + run + ": " + call, got, want);
    }

    /** Mostly least .. most, sometimes just beyond, seldom far beyond. */
    private int draw(int least, int most) {
        int dice = random.nextInt(40);
        if (dice == 0) {
            return least - 1;
        }
        if (dice == 1) {
            return most + 1;
        }
        if (dice == 2 && random.nextInt(4) == 0) {
            return random.nextBoolean() ? Integer.MIN_VALUE : Integer.MAX_VALUE;
        }
        return least + random.nextInt(most - least + 1);
    }

    private void oneCall() {
        switch (random.nextInt(16)) {
            case 0, 1, 2 -> tellOne();
            case 3, 4 -> askLoops();
            case 5 -> askRows();
            case 6 -> askSpans();
            case 7 -> askBoxes();
            case 8, 9 -> tellText();
            case 10, 11 -> doAndUndo();
            case 12 -> askTold();
            case 13, 14 -> useSheets();
            default -> fillSheet();
        }
    }

    private void tellOne() {
        if (random.nextInt(4) == 0) {
            int v = random.nextBoolean() ? draw(-20, 20) : draw(-800, 800);
            due("gain(" + v + ")", judge.gain(v), model.gain(v));
            return;
        }
        int which = draw(0, 1);
        int k = draw(0, 4);
        int v = random.nextBoolean() ? draw(0, 9) : draw(-9, 9);
        due("part(" + which + ", " + k + ", " + v + ")", judge.part(which, k, v), model.part(which, k, v));
    }

    private void askTold() {
        int which = draw(0, 1);
        int k = draw(0, 4);
        due("told(" + which + ", " + k + ")", judge.told(which, k), model.told(which, k));
        int what = draw(0, 4);
        due("count(" + what + ")", judge.count(what), model.count(what));
    }

    private void askLoops() {
        int by = draw(0, 1);
        int what = draw(0, 3);
        int v = draw(-800, 800);
        due("roots(" + by + ", " + what + ")", judge.roots(by, what), model.roots(by, what));
        due("at(" + by + ", " + v + ", " + what + ")", judge.at(by, v, what), model.at(by, v, what));
    }

    private void askRows() {
        int i = draw(0, 4);
        int k = draw(0, 4);
        int what = draw(0, 1);
        due("row(" + i + ", " + k + ", " + what + ")", judge.row(i, k, what), model.row(i, k, what));
        due("rows()", judge.rows(), model.rows());
    }

    private void askSpans() {
        int by = draw(0, 1);
        int k = random.nextBoolean() ? 0 : draw(0, 3);
        int what = draw(0, 1);
        switch (random.nextInt(3)) {
            case 0 -> due("span(" + by + ", " + k + ", " + what + ")", judge.span(by, k, what), model.span(by, k, what));
            case 1 -> due("widest(" + by + ", " + k + ", " + what + ")", judge.widest(by, k, what),
                    model.widest(by, k, what));
            default -> due("spans(" + by + ", " + what + ")", judge.spans(by, what), model.spans(by, what));
        }
    }

    private void askBoxes() {
        int r = random.nextBoolean() ? draw(0, 2) : draw(0, 9);
        int by = draw(0, 1);
        int c = draw(0, 10);
        int what = draw(0, 1);
        due("corners(" + r + ")", judge.corners(r), model.corners(r));
        due("neighbours(" + by + ")", judge.neighbours(by), model.neighbours(by));
        due("off(" + c + ", " + what + ")", judge.off(c, what), model.off(c, what));
    }

    private void tellText() {
        if (random.nextBoolean()) {
            String text = TEXTS[random.nextInt(TEXTS.length)];
            for (int i = 0; i < text.length(); i++) {
                typeBoth(text.charAt(i));
            }
        } else {
            int n = random.nextInt(random.nextInt(10) == 0 ? 70 : 9);
            for (int i = 0; i < n; i++) {
                typeBoth(random.nextInt(20) == 0 ? draw(32, 126) : LETTERS.charAt(random.nextInt(LETTERS.length())));
            }
        }
        if (random.nextInt(3) > 0) {
            due("read()", judge.read(), model.read());
        }
    }

    private void typeBoth(int letter) {
        due("type(" + letter + ")", judge.type(letter), model.type(letter));
    }

    private void doAndUndo() {
        int n = random.nextBoolean() ? draw(1, 3) : draw(1, 40);
        int v = random.nextBoolean() ? draw(0, 9) : random.nextInt();
        switch (random.nextInt(9)) {
            case 0 -> due("drift(" + n + ")", judge.drift(n), model.drift(n));
            case 1 -> due("seed(" + v + ")", judge.seed(v), model.seed(v));
            case 2 -> due("image()", judge.image(), model.image());
            case 3 -> due("restore()", judge.restore(), model.restore());
            default -> due("undo()", judge.undo(), model.undo());
        }
    }

    private int lane() {
        return random.nextInt(4) > 0 ? 0 : draw(0, 3);
    }

    private void fillSheet() {
        int sheet = draw(0, 3);
        int lane = lane();
        int n = random.nextBoolean() ? 24 : draw(0, 24);
        due("sheet(" + sheet + ", " + lane + ", " + n + ")", judge.sheet(sheet, lane, n), model.sheet(sheet, lane, n));
        for (int i = 0; i < n && i < 24; i++) {
            long v = random.nextInt(60) == 0 ? random.nextLong() : random.nextInt(3) * random.nextInt(4);
            due("item(" + sheet + ", " + lane + ", " + i + ", " + v + ")", judge.item(sheet, lane, i, v),
                    model.item(sheet, lane, i, v));
        }
    }

    private void useSheets() {
        int sheet = draw(0, 3);
        int lane = lane();
        int i = random.nextBoolean() ? draw(0, 5) : draw(0, 24);
        int n = draw(1, 4);
        int which = draw(0, 1);
        int to = draw(0, 3);
        int j = draw(0, 24);
        int many = random.nextBoolean() ? draw(0, 5) : draw(0, 24);
        long v = random.nextBoolean() ? draw(-9, 9) : random.nextLong();
        due("judged(" + sheet + ", " + lane + ", " + i + ", " + n + ")", judge.judged(sheet, lane, i, n),
                model.judged(sheet, lane, i, n));
        switch (random.nextInt(5)) {
            case 0 -> due("film(" + which + ", " + sheet + ", " + lane + ", " + i + ")",
                    judge.film(which, sheet, lane, i), model.film(which, sheet, lane, i));
            case 1 -> due("item(" + sheet + ", " + lane + ", " + i + ", " + v + ")", judge.item(sheet, lane, i, v),
                    model.item(sheet, lane, i, v));
            case 2, 3 -> due("copy(" + sheet + ", " + i + ", " + to + ", " + j + ", " + many + ")",
                    judge.copy(sheet, i, to, j, many), model.copy(sheet, i, to, j, many));
            default -> {
                if (random.nextInt(4) == 0) {
                    due("drop(" + sheet + ")", judge.drop(sheet), model.drop(sheet));
                }
            }
        }
    }
}
