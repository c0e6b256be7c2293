/** Promises 16 and 17: charges, who is never charged, rounds of three, days. */
public final class ChargesTest {
    private static final Check check = new Check("ChargesTest");

    private static void due(String call, long want, long got) {
        check.due(call, want, got);
    }

    public static void main(String[] args) {
        refusals();
        charges();
        threes();
        days();
        check.end();
    }

    private static void refusals() {
        MustDefendHim x = Check.court(1, 1, 1, 1, 1, 1);
        due("no shelf", -1, x.charges(-1, 0));
        due("no shelf", -1, x.charges(6, 0));
        due("what, ahead of nothing", -1, x.charges(0, 3));
        due("what", -1, x.charges(0, -1));
        due("nothing", -11, x.charges(0, 0));
        due("no shelf", -1, x.days(-1, -1));
        due("no shelf", -1, x.days(6, -1));
        due("k, ahead of nothing", -1, x.days(0, -2));
        due("nothing", -11, x.days(0, 0));
        x.row(0, 1, 4);
        due("shorts", -12, x.charges(0, 2));
        due("shorts", -12, x.days(0, 9));
        x.body(1);
        x.keep(0, 0);
        due("a body", -12, x.charges(0, 2));
        due("a body", -12, x.days(0, 9));
    }

    private static void charges() {
        MustDefendHim x = Check.court(1, 1, 1, 1, 1, 1, 1, 1);
        Check.bytes(x, 0, 0, 1, 2, 1, 3, 1, 0);
        due("what lacks is none", 3, x.charges(0, 2));
        due("never: 0, 2, 3", 13, x.charges(0, 0));
        due("no round", 0, x.charges(0, 1));
        Check.bytes(x, 0, 0, 1, 1, 1, 3, 2);
        due("alike ends it", 1, x.charges(0, 2));
        Check.bytes(x, 0, 0, 1, 4, 1, 3, 2);
        due("nobody ends it", 1, x.charges(0, 2));
        Check.bytes(x, 0, 0, 1, 1, -1, 3, 2);
        due("nobody ends it", 1, x.charges(0, 2));
        x.row(0, 0, 60);
        for (int i = 0; i < 30; i++) {
            x.put(0, 2 * i, 3);
            x.put(0, 2 * i + 1, i < 10 ? 2 : 0);
        }
        due("ten at most", 10, x.charges(0, 2));
        due("the eleventh does not count", 11, x.charges(0, 0));
        x.row(1, 0, 0);
        due("none", 15, x.charges(1, 0));
    }

    private static void threes() {
        MustDefendHim x = Check.court(1, 1, 1, 1, 1, 1, 1, 1, 1, 1, 1, 1, 1, 1);
        Check.bytes(x, 0, 4, 6, 6, 5, 5, 4);
        due("one round", 1, x.charges(0, 1));
        Check.bytes(x, 0, 4, 6, 6, 5, 5, 4, 4, 5, 5, 6, 6, 4);
        due("both ways", 2, x.charges(0, 1));
        Check.bytes(x, 0, 0, 1, 1, 2, 2, 0, 0, 1, 1, 2, 2, 0);
        due("told twice", 1, x.charges(0, 1));
        Check.bytes(x, 0, 0, 1, 1, 2, 2, 0, 1, 3, 3, 0);
        due("two rounds by one charge", 2, x.charges(0, 1));
        Check.bytes(x, 0, 0, 1, 1, 0, 1, 2, 2, 1);
        due("two are none", 0, x.charges(0, 1));
        Check.bytes(x, 0, 0, 1, 1, 2, 0, 2);
        due("not round", 0, x.charges(0, 1));
    }

    private static void dealt(MustDefendHim x, int days, int... each) {
        due("days", days, x.days(0, -1));
        for (int k = 0; k < each.length; k++) {
            due("day of " + k, each[k], x.days(0, k));
        }
        due("not as many", -2, x.days(0, each.length));
        due("not as many", -2, x.days(0, Integer.MAX_VALUE));
    }

    private static void days() {
        MustDefendHim x = Check.court(1, 1, 1, 1, 1, 1, 1, 1, 1, 1, 1, 1, 1, 1);
        x.row(0, 0, 0);
        dealt(x, 0);
        Check.bytes(x, 0, 0, 1, 0, 2, 3, 1);
        dealt(x, 1, 0, 0, 0);
        Check.bytes(x, 0, 0, 1, 1, 0);
        dealt(x, 2, 0, 1);
        Check.bytes(x, 0, 0, 1, 1, 2, 2, 3, 3, 4, 4, 5, 5, 6);
        dealt(x, 2, 0, 1, 0, 1, 0, 1);
        Check.bytes(x, 0, 0, 1, 2, 3, 1, 2, 3, 0);
        dealt(x, 2, 0, 0, 1, 1);
        // by itself the second would go to day 0; then a third day would be needed
        Check.bytes(x, 0, 0, 1, 3, 4, 1, 2, 2, 3);
        dealt(x, 2, 0, 1, 1, 0);
        Check.bytes(x, 0, 0, 1, 3, 4, 1, 2, 2, 3, 4, 0);
        dealt(x, 3, 0, 0, 1, 2, 1);
        Check.bytes(x, 0, 0, 1, 1, 2, 2, 0, 1, 0, 2, 1, 0, 2);
        dealt(x, 3, 0, 1, 2, 1, 2, 0);
        Check.bytes(x, 0, 0, 1, 1, 2, 2, 0, 1, 0, 2, 1, 0, 2, 3, 4);
        due("seven", -5, x.days(0, -1));
        due("seven", -5, x.days(0, 0));
        due("state ahead of not", -5, x.days(0, 9));
        Check.bytes(x, 0, 0, 1, 1, 2, 2, 0, 1, 0, 2, 1, 0, 2, 3, 3, 3, 4);
        due("six count", 3, x.days(0, -1));
    }
}
