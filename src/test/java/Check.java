/** What the tests share: answers that are due, and the end of a test. */
final class Check {
    private static int looked = 0;
    private static int wrong = 0;

    private Check() {
    }

    static void due(String call, long got, long want) {
        looked++;
        if (got != want) {
            wrong++;
            if (wrong <= 50) {
                System.out.println(call + " answered " + got + ", due is " + want);
            }
        }
    }

    static void holds(String what, boolean fact) {
        looked++;
        if (!fact) {
            wrong++;
            System.out.println("not so: " + what);
        }
    }

    static boolean anyWrong() {
        return wrong > 0;
    }

    static void end() {
        System.out.println(looked + " answers, " + wrong + " of them not as due");
        if (wrong > 0 || looked == 0) {
            System.exit(1);
        }
    }

    /** Types a text and reads it. */
    static int read(LoopJudge judge, String text) {
        for (int i = 0; i < text.length(); i++) {
            judge.type(text.charAt(i));
        }
        return judge.read();
    }

    /** Makes P and Q just these PARTS, PART 0 first. */
    static void tell(LoopJudge judge, int[] p, int[] q) {
        for (int k = 0; k < 5; k++) {
            judge.part(0, k, p[k]);
            judge.part(1, k, q[k]);
        }
    }
}
