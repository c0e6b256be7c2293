/** Promises 32 to 34, 40 and 41: bodies, their acts, the trace, what is taken, counts. */
public final class ActsTest {
    private static final Check check = new Check("ActsTest");

    private static void due(String call, long want, long got) {
        check.due(call, want, got);
    }

    public static void main(String[] args) {
        body();
        acts();
        noSuch();
        wraps();
        taken();
        counts();
        check.end();
    }

    private static void body() {
        MustDefendHim x = new MustDefendHim();
        due("kind", -1, x.body(-1));
        due("kind", -1, x.body(8));
        for (int i = 0; i < 50; i++) {
            due("body", i, x.body(i % 8));
        }
        due("full", -3, x.body(0));
        due("bad ahead of full", -1, x.body(8));
        due("fifty", 50, x.count(4));
        due("the last one acts", 3 + 49 + 3, x.act(49, 0, 3));
    }

    private static void traced(MustDefendHim x, int kind, int act, int want, int... bodies) {
        due("kind " + kind + " act " + act, want, x.act(kind, act, 5));
        due("how many ran", bodies.length, x.count(5));
        for (int i = 0; i < bodies.length; i++) {
            due("kind " + kind + " act " + act + " trace " + i, bodies[i], x.trace(i));
        }
        due("no more", -1, x.trace(bodies.length));
        due("below 0", -1, x.trace(-1));
    }

    /** Each body's number is its kind's here. */
    private static void acts() {
        MustDefendHim x = new MustDefendHim();
        for (int kind = 0; kind < 8; kind++) {
            x.body(kind);
        }
        traced(x, 0, 0, 5, 1);
        traced(x, 0, 1, 10, 10, 1);
        traced(x, 0, 2, 5, 11);
        traced(x, 0, 3, 9, 2, 10, 1, 11);
        traced(x, 1, 0, 9, 20, 1);
        traced(x, 1, 1, 18, 10, 20, 1);
        traced(x, 1, 2, 4, 11);
        traced(x, 1, 3, 18, 2, 10, 20, 1, 11);
        traced(x, 2, 0, 7, 1);
        traced(x, 2, 1, -14, 30, 10, 1);
        traced(x, 2, 3, -17, 2, 30, 10, 1, 11);
        traced(x, 3, 1, -18, 41, 30, 10, 1);
        traced(x, 3, 2, 18, 40, 11);
        traced(x, 3, 3, -24, 2, 41, 30, 10, 1, 40, 11);
        traced(x, 4, 0, 12, 20, 1);
        traced(x, 4, 3, 22, 50, 2, 10, 20, 1, 11);
        traced(x, 5, 2, -7, 60, 40, 11, 1);
        traced(x, 5, 3, -26, 61, 2, 41, 30, 10, 1, 60, 40, 11, 1);
        traced(x, 6, 0, 22, 70, 1);
        traced(x, 6, 3, 37, 2, 10, 70, 1, 11);
        traced(x, 7, 0, 23, 81, 70, 1);
        traced(x, 7, 1, 51, 80, 10, 81, 70, 1, 11);
        traced(x, 7, 3, 45, 2, 80, 10, 81, 70, 1, 11, 11);
    }

    private static void noSuch() {
        MustDefendHim x = new MustDefendHim();
        x.body(0);
        for (int[] wrong : new int[][] {{1, 0}, {-1, 0}, {0, 4}, {0, -1}}) {
            x.act(0, 3, 1);
            due("ran", 4, x.count(5));
            due("no such", 0, x.act(wrong[0], wrong[1], 7));
            due("no trace", -1, x.trace(0));
            due("none ran", 0, x.count(5));
        }
    }

    private static void wraps() {
        MustDefendHim x = new MustDefendHim();
        x.body(0);
        x.body(6);
        due("speaks", -2, x.act(0, 1, Integer.MAX_VALUE));
        due("brings", Integer.MIN_VALUE * 2, x.act(1, 0, Integer.MAX_VALUE));
    }

    private static void taken() {
        MustDefendHim x = new MustDefendHim();
        int[] above = {-1, 0, 0, 2, 1, 3, 0, 6};
        for (int kind = 0; kind < 8; kind++) {
            x.body(kind);
            x.keep(0, kind);
            for (int k = 0; k < 8; k++) {
                boolean under = false;
                for (int at = kind; at >= 0; at = above[at]) {
                    under |= at == k;
                }
                due(kind + " taken for " + k, under ? kind : -12, x.taken(0, k));
            }
        }
        due("kind", -1, x.taken(0, 8));
        due("kind", -1, x.taken(1, -1));
        due("no shelf", -1, x.taken(6, 0));
        due("no shelf", -1, x.taken(-1, 0));
        due("nothing", -11, x.taken(1, 0));
        x.row(1, 0, 3);
        due("a row", -12, x.taken(1, 0));
        x.keep(0, -1);
        due("nothing any more", -11, x.taken(0, 0));
    }

    private static void counts() {
        MustDefendHim x = Check.court(1, 1, 1, 1);
        x.hold(1, 0);
        x.feed('1');
        x.feed('2');
        x.feed('3');
        for (int i = 0; i < 4; i++) {
            x.mend(0, 3, 10 + i);
        }
        for (int i = 0; i < 6; i++) {
            x.body(5);
        }
        x.act(0, 3, 1);
        int[] want = {2, 1, 3, 4, 6, 10};
        for (int what = 0; what < 6; what++) {
            due("count " + what, want[what], x.count(what));
        }
        due("what", -1, x.count(6));
        due("what", -1, x.count(-1));
    }
}
