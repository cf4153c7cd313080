/** Counts answers, prints those that are not the ones due, and ends the test. */
final class Expect {
    private int asked;
    private int wrong;
    private String ahead = "";

    /** What is printed ahead of each wrong answer from here on. */
    void under(String heading) {
        ahead = heading;
    }

    int asked() {
        return asked;
    }

    void same(String call, long got, long want) {
        asked++;
        if (got != want) {
            wrong++;
            System.out.println(ahead + call + " answered " + got + ", due is " + want);
        }
    }

    void yes(String call, boolean got) {
        same(call, got ? 1 : 0, 1);
    }

    void no(String call, boolean got) {
        same(call, got ? 1 : 0, 0);
    }

    /** A row of answers to one question with a rising last number, NONE behind the last. */
    void row(String call, int[] got, int... want) {
        same(call + " length", got.length, want.length);
        for (int i = 0; i < Math.min(got.length, want.length); i++) {
            same(call + " at " + i, got[i], want[i]);
        }
    }

    void end() {
        System.out.println(asked + " answers asked, " + wrong + " wrong");
        if (wrong != 0 || asked == 0) {
            System.exit(1);
        }
    }
}
