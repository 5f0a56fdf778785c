import java.util.ArrayList;
import java.util.List;

/**
 * A judge in a state that can be made again and again, so that everything can be asked of it: each group of questions
 * gets a judge of its own, since some of them (undo, read, drop) change what they ask for.
 */
final class Scene {
    interface Call {
        long on(LoopJudge judge);
    }

    interface Calls {
        void on(LoopJudge judge);
    }

    static final Scene NEW = new Scene(judge -> { });
    /** Six are known and one is lost, the image is older, one sheet is missing, nothing is typed. */
    static final Scene STILL = new Scene(judge -> {
        tellMuch(judge, true);
        fillSheets(judge);
    });
    static final Scene BUSY = STILL.then(judge -> type(judge, " -3 s2+"));
    static final Scene FULL_TAPE = STILL.then(judge -> type(judge, "4s3 - s;" + " ".repeat(51) + "7"));
    /** P and Q have no PART at all. */
    static final Scene NOTHING = BUSY.then(Scene::clearParts);
    /** All that was known is undone. */
    static final Scene NO_PAST = BUSY.then(judge -> {
        for (int more = 0; more < 6; more++) {
            judge.undo();
        }
        return judge.seed(77);
    });
    static final Scene NO_IMAGE = new Scene(judge -> {
        tellMuch(judge, false);
        fillSheets(judge);
        type(judge, " -3 s2+");
    });
    /** Sheet 1 is a row of ints without an item. */
    static final Scene EMPTY_ROW = BUSY.then(judge -> judge.sheet(1, 2, 0));
    /** What is BAD is so in any of these. */
    static final List<Scene> ALL = List.of(NEW, BUSY, NOTHING, FULL_TAPE);

    private final Calls calls;
    private List<String> seen;

    Scene(Calls calls) {
        this.calls = calls;
    }

    LoopJudge make() {
        LoopJudge judge = new LoopJudge();
        calls.on(judge);
        return judge;
    }

    Scene then(Call call) {
        return new Scene(judge -> {
            calls.on(judge);
            call.on(judge);
        });
    }

    private static void tellMuch(LoopJudge judge, boolean withImage) {
        judge.part(0, 2, 5);
        judge.gain(40);
        judge.part(1, 1, -3);
        judge.seed(99);
        if (withImage) {
            judge.image();
        }
        judge.drift(2);
        judge.gain(-37);
        judge.part(0, 3, 4);
        judge.seed(1234);
    }

    private static void fillSheets(LoopJudge judge) {
        judge.sheet(0, 0, 24);
        for (int i = 0; i < 24; i++) {
            judge.item(0, 0, i, i * 7 % 19 - 9);
        }
        judge.sheet(1, 1, 7);
        for (int i = 0; i < 7; i++) {
            judge.item(1, 1, i, 3 - i);
        }
        judge.sheet(2, 0, 6);
        judge.item(2, 0, 5, 10);
        judge.item(2, 0, 0, 8);
    }

    private static long clearParts(LoopJudge judge) {
        for (int k = 0; k < 10; k++) {
            judge.part(k / 5, k % 5, 0);
        }
        return judge.count(3);
    }

    /** How many letters the tape has then. */
    static int type(LoopJudge judge, String text) {
        int many = 0;
        for (int i = 0; i < text.length(); i++) {
            many = judge.type(text.charAt(i));
        }
        return many;
    }

    /** All that can be asked, each answer with what it answers to. */
    List<String> look() {
        if (seen == null) {
            List<String> answers = new ArrayList<>();
            askLoop(make(), answers);
            askPast(make(), answers);
            LoopJudge restored = make();
            answers.add("restore() " + restored.restore());
            askPast(restored, answers);
            askTape(answers);
            for (int sheet = 0; sheet < 4; sheet++) {
                askSheet(sheet, answers);
            }
            seen = answers;
        }
        return seen;
    }

    private static void askTold(LoopJudge judge, List<String> answers) {
        for (int k = 0; k < 5; k++) {
            answers.add("told(0, " + k + ") " + judge.told(0, k));
            answers.add("told(1, " + k + ") " + judge.told(1, k));
        }
        for (int what = 0; what < 5; what++) {
            answers.add("count(" + what + ") " + judge.count(what));
        }
    }

    private static void askLoop(LoopJudge judge, List<String> answers) {
        askTold(judge, answers);
        answers.add("rows() " + judge.rows());
        for (int by = 0; by < 2; by++) {
            for (int what = 0; what < 4; what++) {
                answers.add("roots(" + by + ", " + what + ") " + judge.roots(by, what));
            }
            for (int what = 0; what < 2; what++) {
                answers.add("spans(" + by + ", " + what + ") " + judge.spans(by, what));
                answers.add("span(" + by + ", 0, " + what + ") " + judge.span(by, 0, what));
                answers.add("widest(" + by + ", 0, " + what + ") " + judge.widest(by, 0, what));
            }
            answers.add("neighbours(" + by + ") " + judge.neighbours(by));
        }
        answers.add("corners(1) " + judge.corners(1));
        answers.add("off(3, 0) " + judge.off(3, 0));
    }

    /** What may be undone, step by step, each with THE DRAW. */
    private static void askPast(LoopJudge judge, List<String> answers) {
        for (int step = 0; step < 8; step++) {
            askTold(judge, answers);
            int draw = judge.seed(0);
            answers.add("THE DRAW " + draw);
            judge.seed(draw);
            answers.add("undo() " + judge.undo());
        }
    }

    private void askTape(List<String> answers) {
        LoopJudge asItIs = make();
        answers.add("read() " + asItIs.read());
        askTold(asItIs, answers);
        LoopJudge typed = make();
        answers.add("type('2') " + typed.type('2'));
        answers.add("read() " + typed.read());
        askTold(typed, answers);
    }

    private void askSheet(int sheet, List<String> answers) {
        answers.add("lane of sheet " + sheet + ": " + laneOf(sheet));
        answers.add("drop(" + sheet + ") " + make().drop(sheet));
        answers.add("items of sheet " + sheet + ": " + items(sheet));
    }

    private int laneOf(int sheet) {
        for (int lane = 0; lane < 4; lane++) {
            if (make().item(sheet, lane, -1, 0) == LoopJudge.INDEX) {
                return lane;
            }
        }
        return LoopJudge.NULL;
    }

    /**
     * The items of a sheet, each -9 .. 9, or null where an item is beyond. No call tells an item, but c s + item is
     * steady by the circle if the item is nearer to 0 than c, and by the axis if it is above 0 (c above 0).
     */
    List<Integer> items(int sheet) {
        LoopJudge judge = make();
        int size = make().drop(sheet);
        int lane = laneOf(sheet);
        int table = (sheet + 1) % 4;
        int[] near = new int[Math.max(size, 0)];
        int[] above = new int[Math.max(size, 0)];
        for (int c = 1; c <= 9 && size > 0; c += 4) {
            int many = Math.min(4, 10 - c);
            judge.sheet(table, lane, 5 * many);
            for (int m = 0; m < many; m++) {
                judge.item(table, lane, 5 * m + 1, c + m);
            }
            for (int i = 0; i < size; i++) {
                for (int m = 0; m < many; m++) {
                    judge.copy(sheet, i, table, 5 * m, 1);
                }
                int set = judge.judged(table, lane, 0, many);
                near[i] = set < 0 ? 99 : near[i] + Integer.bitCount(set >> 8);
                above[i] = set & 255;
            }
        }
        List<Integer> items = new ArrayList<>();
        for (int i = 0; i < size; i++) {
            items.add(near[i] > 9 ? null : Integer.valueOf(above[i] != 0 ? 9 - near[i] : near[i] - 9));
        }
        return items;
    }
}
