/** Promises 19 to 21: the roll read back. */
public final class RollTest {
    private static final Check check = new Check("RollTest");

    private static void due(String call, long want, long got) {
        check.due(call, want, got);
    }

    public static void main(String[] args) {
        refusals();
        judge();
        sixteen();
        ways();
        unknown();
        sold();
        check.end();
    }

    private static void all(MustDefendHim x, int judged, int ways, int likeliest, int sold) {
        due("judge", judged, x.judge(0));
        due("ways", ways, x.roll(0, 0));
        due("likeliest", likeliest, x.roll(0, 1));
        due("sold", sold, x.sold(0));
    }

    private static void refusals() {
        MustDefendHim x = Check.court(1, 1, 1, 1);
        for (int shelf : new int[] {-1, 6, Integer.MAX_VALUE}) {
            due("no shelf", -1, x.judge(shelf));
            due("no shelf", -1, x.roll(shelf, 0));
            due("no shelf", -1, x.sold(shelf));
        }
        due("what, ahead of nothing", -1, x.roll(0, 2));
        due("what", -1, x.roll(0, -1));
        all(x, -11, -11, -11, -11);
        x.row(0, 4, 3);
        all(x, -12, -12, -12, -12);
        x.body(2);
        x.keep(0, 0);
        all(x, -12, -12, -12, -12);
    }

    private static void judge() {
        MustDefendHim x = Check.court(3, 5, 3, 5, 3, 5);
        x.row(0, 0, 0);
        all(x, -2, 1, 0, -2);
        Check.bytes(x, 0, 0, 1, 1, 1);
        all(x, 1, 0, -2, -2);
        Check.bytes(x, 0, 0, 1, 1, 1, 0);
        all(x, 1, 0, -2, -2);
        Check.bytes(x, 0, 0, 1, 1, 1, 1, -1);
        all(x, 1, 0, -2, -2);
        Check.bytes(x, 0, 0, 1, 1, 1, 3, 0);
        all(x, 1, 0, -2, -2);
        Check.bytes(x, 0, 0, 1, 1, 3, 1, 0);
        all(x, 1, 0, -2, -2);
        Check.bytes(x, 0, 0, 1, 1, 0, 1, 2);
        all(x, 1, 0, -2, -2);
        Check.bytes(x, 0, 0, 1, 1, 0, 1, -2);
        all(x, 1, 0, -2, -2);
        Check.bytes(x, 0, 0, 1, 0, 0, 1, 1);
        all(x, 1, 0, -2, -2);
        Check.law(x, "n=1?0;12");
        Check.bytes(x, 0, 0, 1, 1, 0, 1, 0, 1, 2, 1);
        all(x, -2, 1, 0, -2);
        Check.bytes(x, 0, 0, 1, 1, 0, 1, 1, 1, 2, 1);
        all(x, 1, 0, -2, -2);
        Check.bytes(x, 0, 0, 1, 0);
        all(x, 0, 0, -2, -2);
        // an unknown end as the likelier one: by 6 it is won, so 0 may charge again
        Check.bytes(x, 0, 0, 1, -1, 0, 1, 1);
        Check.law(x, "6");
        due("won by 6", -2, x.judge(0));
        Check.law(x, "5");
        due("lost by 5", 1, x.judge(0));
        x.hold(1, 0);
        due("from now", 0, x.judge(0));
    }

    private static void sixteen() {
        MustDefendHim x = Check.court(3, 5, 3, 5);
        x.row(0, 0, 60);
        for (int i = 0; i < 17; i++) {
            x.put(0, 3 * i + 1, 1);
            x.put(0, 3 * i + 2, 1);
        }
        x.put(0, 48, 9);
        all(x, -2, 1, 0, 0);
        x.put(0, 45, 9);
        all(x, 15, 0, -2, -2);
        x.put(0, 45, 0);
        Check.law(x, "n=15?5;12");
        all(x, -2, 1, 0, 15);
        x.row(0, 0, 49);
        for (int i = 0; i < 16; i++) {
            x.put(0, 3 * i + 1, 1);
            x.put(0, 3 * i + 2, 1);
        }
        all(x, -2, 1, 0, 15);
    }

    private static void ways() {
        MustDefendHim x = Check.court(3, 5, 3, 5, 3, 5);
        Check.law(x, "6");
        Check.bytes(x, 0, 0, 1, -1, 1, 0, -1, 2, 0, -1);
        // of like ones the least bits
        all(x, -2, 8, 0, -2);
        Check.law(x, "n=0?7;n=1?5;7");
        all(x, -2, 8, 5, -2);
        Check.law(x, "n=0?12;n=1?0;7");
        all(x, -2, 2, 5, -2);
        // 0 must have won the first one: it charges again
        Check.bytes(x, 0, 0, 1, -1, 0, 2, -1);
        Check.law(x, "1");
        all(x, 1, 2, 1, 0);
        // a known end weighs, too: the way by which 0 is bound makes the second end likelier
        Check.bytes(x, 0, 0, 1, -1, 2, 0, 1);
        Check.law(x, "n=0?7;b=1?11;1");
        all(x, -2, 2, 0, 0);
        Check.law(x, "n=0?7;b=1?9;8");
        all(x, -2, 2, 1, -2);
    }

    private static void unknown() {
        MustDefendHim x = Check.court(3, 5, 3, 5);
        Check.law(x, "12");
        x.row(0, 0, 27);
        for (int i = 0; i < 9; i++) {
            x.put(0, 3 * i + 1, 1);
            x.put(0, 3 * i + 2, -1);
        }
        all(x, -2, -5, -5, -5);
        due("what ahead of state", -1, x.roll(0, 2));
        x.put(0, 26, 1);
        all(x, -2, 1, 255, -2);
        // of nobody: it does not count as unknown
        x.put(0, 26, -1);
        x.put(0, 25, 7);
        all(x, 8, 0, -2, -2);
        x.put(0, 25, 1);
        x.put(0, 24, -1);
        all(x, 8, 0, -2, -2);
        // alike ones are people that are there
        x.put(0, 24, 1);
        all(x, 8, -5, -5, -5);
    }

    private static void sold() {
        MustDefendHim x = Check.court(3, 5, 3, 5);
        Check.bytes(x, 0, 0, 1, 1, 0, 1, 1, 0, 1, 0);
        Check.law(x, "n=0?6;n=1?5;5");
        all(x, -2, 1, 0, 1);
        Check.law(x, "n<2?6;7");
        all(x, -2, 1, 0, 2);
        Check.law(x, "6");
        all(x, -2, 1, 0, -2);
        // an unknown one of the likeliest way may be sold, too: else 0 could not charge again
        Check.bytes(x, 0, 0, 1, -1, 0, 1, 1);
        Check.law(x, "n=0?3;9");
        all(x, 1, 1, 1, 0);
    }
}
