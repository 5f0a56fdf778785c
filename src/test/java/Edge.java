import java.util.List;

/** A sentence of the document that names an edge, with its promise, and the answers that are due by it. */
final class Edge {
    private static int promise;
    private static String sentence;

    private Edge() {
    }

    /** From here on the answers are those of this sentence. */
    static void of(int promise, String sentence) {
        Edge.promise = promise;
        Edge.sentence = sentence;
        Check.holds(where() + " stands in the document", Doc.quote(promise, sentence));
    }

    static void due(long got, long want) {
        if (got != want) {
            Check.due(where(), got, want);
        } else {
            Check.due(sentence, got, want);
        }
    }

    static void holds(boolean fact) {
        Check.holds(fact ? sentence : where(), fact);
    }

    /** PARTS of P (which 0) or Q (1), PART 0 first. */
    static void dueParts(LoopJudge judge, int which, int... parts) {
        for (int k = 0; k < 5; k++) {
            due(judge.told(which, k), parts[k] + 9);
        }
    }

    /** Items of a sheet; those that are not -9 .. 9 are given as null. */
    static void dueItems(Scene scene, int sheet, Integer... items) {
        List<Integer> got = scene.items(sheet);
        List<Integer> want = java.util.Arrays.asList(items);
        Check.holds(where() + ": sheet " + sheet + " has " + got + ", due is " + want, got.equals(want));
    }

    static void refused(Scene scene, Scene.Call call, long want) {
        due(call.on(scene.make()), want);
        changesNothing(scene, call);
    }

    /** BAD in every state, and nothing changes. */
    static void bad(Scene.Call call) {
        for (Scene scene : Scene.ALL) {
            refused(scene, call, LoopJudge.BAD);
        }
    }

    static void changesNothing(Scene scene, Scene.Call call) {
        List<String> before = scene.look();
        List<String> after = scene.then(call).look();
        for (int n = 0; n < Math.max(before.size(), after.size()); n++) {
            String was = n < before.size() ? before.get(n) : "nothing";
            String is = n < after.size() ? after.get(n) : "nothing";
            if (!was.equals(is)) {
                Check.holds(where() + ": refused, or only asked, but " + was + " became " + is, false);
                return;
            }
        }
        Check.holds("nothing changes", true);
    }

    /** A judge of P and Q as texts, or "0" for no PART at all. */
    static LoopJudge judge(String p, String q) {
        LoopJudge judge = new LoopJudge();
        int degree = Check.read(judge, (p.equals("0") ? "1" : p) + ";" + (q.equals("0") ? "1" : q));
        Check.holds("the test's own text " + p + ";" + q, degree >= 0);
        if (p.equals("0")) {
            judge.part(0, 0, 0);
        }
        if (q.equals("0")) {
            judge.part(1, 0, 0);
        }
        return judge;
    }

    static LoopJudge judge(String p, String q, int gain) {
        LoopJudge judge = judge(p, q);
        judge.gain(gain);
        return judge;
    }

    /** The promise, the sentence, and the line of the test that stands below it. */
    private static String where() {
        String line = "";
        for (StackTraceElement e : new Throwable().getStackTrace()) {
            if (e.getClassName().endsWith("Edges") && !e.getMethodName().startsWith("due")) {
                line = e.getFileName() + ":" + e.getLineNumber();
                break;
            }
        }
        return "promise " + promise + ", \"" + sentence + "\", " + line;
    }
}
