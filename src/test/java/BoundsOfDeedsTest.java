/**
 * The bounds of promises 24 to 29 and of "A CASE": who is let, who speaks, who is bound or free
 * then, releases and years of nobody and of all, what is led, an image that is not there yet.
 */
public final class BoundsOfDeedsTest {
    private static final Check check = new Check("BoundsOfDeedsTest");
    private static final int BAD = MustDefendHim.BAD, STATE = MustDefendHim.STATE, VOID = MustDefendHim.VOID;

    private static void due(String call, long want, long got) {
        check.due(call, want, got);
    }

    public static void main(String[] args) {
        pairs();
        ends();
        mustBeFree();
        speaksForItself();
        boundToAnother();
        leastNumber();
        leastNumberAheadOfItself();
        anEndWithoutATwelfth();
        release();
        year();
        led();
        imageIsThere();
        imageOfAll();
        cameSince();
        manyCases();
        check.end();
    }

    private static MustDefendHim alike(int people) {
        MustDefendHim x = new MustDefendHim();
        for (int i = 0; i < people; i++) {
            x.person(0, 0);
        }
        return x;
    }

    private static void bound(String when, MustDefendHim x, int... to) {
        int many = 0;
        for (int i = 0; i < to.length; i++) {
            due(when + ", bound " + i, to[i], x.of(i, 4));
            many += to[i] == -1 ? 0 : 1;
        }
        due(when + ", how many", many, x.count(1));
    }

    /** "ab: 10 times the one and the other"; "(unlike ones ..)" */
    private static void pairs() {
        for (int people : new int[] {0, 1, 2, 7}) {
            MustDefendHim x = alike(people);
            for (int ab = -12; ab <= 112; ab++) {
                boolean is = ab >= 0 && ab / 10 < people && ab % 10 < people && ab / 10 != ab % 10;
                due(people + " people, " + ab, is ? ab % 10 : BAD, x.hold(ab, 1));
            }
            due("each one of them was heard", people * (people - 1), x.led(0));
        }
        MustDefendHim x = alike(7);
        for (int ab : new int[] {Integer.MIN_VALUE, -1001, 1001, 100000001, Integer.MAX_VALUE}) {
            due("far off: " + ab, BAD, x.hold(ab, 1));
        }
    }

    /** "(1: a wins, 0: a loses)" */
    private static void ends() {
        MustDefendHim x = alike(2);
        for (int end : new int[] {Integer.MIN_VALUE, -1, 2, Integer.MAX_VALUE}) {
            due("end " + end, BAD, x.hold(1, end));
        }
        due("none was heard", 0, x.led(0));
        due("won", 1, x.hold(1, 1));
        due("lost", 1, x.hold(1, 0));
        due("two were heard", 2, x.led(0));
    }

    /** "a must be FREE, else it is not let" */
    private static void mustBeFree() {
        MustDefendHim x = alike(3);
        x.hold(1, 0);
        for (int end = 0; end <= 1; end++) {
            due("bound to him", STATE, x.hold(1, end));
            due("bound to another", STATE, x.hold(2, end));
        }
        x.hold(21, 1);
        bound("0 spoke and lost", x, 0, -1, -1);
        due("bound to itself", STATE, x.hold(1, 1));
        due("what was not let is not led", 2, x.led(0));
        due("nor won", 1, x.led(1));
        due("nor paid", 10, x.led(4));
        x.release(0);
        due("free again", 1, x.hold(1, 1));
    }

    /** "If b spoke for itself and loses, it is FREE" */
    private static void speaksForItself() {
        MustDefendHim x = alike(3);
        due("b itself", 1, x.hold(1, 1));
        bound("b was free and lost", x, -1, -1, -1);
        due("b itself", 1, x.hold(1, 0));
        bound("b was free and won", x, 1, -1, -1);
        due("b itself, bound to another", 0, x.hold(20, 1));
        bound("b lost", x, -1, -1, -1);
        x.hold(1, 0);
        due("b itself, bound to another", 0, x.hold(20, 0));
        bound("b won", x, -1, -1, 0);
    }

    /** "a wins: who spoke for b is BOUND to itself then, if it was another one than b; b is FREE" */
    private static void boundToAnother() {
        MustDefendHim x = alike(4);
        x.hold(1, 0);
        x.hold(12, 0);
        bound("0 to 1, 1 to 2", x, 1, 2, -1, -1);
        due("0 speaks for 1", 0, x.hold(31, 1));
        bound("3 won: 0 to itself, 1 free", x, 0, -1, -1, -1);
        due("0 is bound to itself: it speaks", 0, x.hold(30, 0));
        bound("it won: free, 3 is bound", x, -1, -1, -1, 0);
        x.year();
        x.hold(1, 0);
        x.hold(12, 0);
        due("0 speaks for 1", 0, x.hold(31, 0));
        bound("3 lost: 0 free, 1 stays, 3 to 1", x, -1, 2, -1, 1);
        due("1 speaks for 2", 1, x.hold(2, 1));
        bound("0 won: 1 to itself", x, -1, 1, -1, 1);
    }

    /** "For b speaks the one of least number who is BOUND to b (b itself, too), else b" */
    private static void leastNumber() {
        MustDefendHim x = alike(4);
        x.hold(31, 0);
        x.hold(12, 0);
        x.hold(2, 1);
        bound("1 to itself, 3 to 1", x, -1, 1, -1, 1);
        due("1 and 3 are bound to 1: 1", 1, x.wins(1, 1));
        due("1 speaks", 1, x.hold(1, 0));
        bound("it won: free; 3 stays", x, 1, -1, -1, 1);
        due("0 and 3 are bound to 1: 0", 0, x.hold(21, 0));
        bound("0 free; 3 stays", x, -1, -1, 1, 1);
        due("2 and 3: 2", 2, x.hold(1, 1));
        bound("2 to itself; 3 stays", x, -1, -1, 2, 1);
        due("3 is left", 3, x.hold(1, 1));
        bound("3 to itself", x, -1, -1, 2, 3);
        due("nobody is left: 1 itself", 1, x.hold(1, 1));
    }

    /** "(b itself, too)": one of a lesser number goes ahead of b itself */
    private static void leastNumberAheadOfItself() {
        MustDefendHim x = alike(4);
        x.hold(1, 0);
        x.hold(12, 0);
        x.hold(32, 1);
        bound("0 to 1, 1 to itself", x, 1, 1, -1, -1);
        due("0 is less than 1", 0, x.hold(31, 1));
        bound("0 to itself; 1 is free", x, 0, -1, -1, -1);
        x.year();
        x.hold(1, 0);
        x.hold(12, 0);
        x.hold(32, 1);
        due("0 is less than 1", 0, x.hold(31, 0));
        bound("0 is free; 1 stays bound to itself; 3 to 1", x, -1, 1, -1, 1);
    }

    /** In deed the end is told: the law does not say whether it may be. */
    private static void anEndWithoutATwelfth() {
        MustDefendHim x = alike(2);
        Check.law(x, "0");
        due("won by 0", 1, x.hold(1, 1));
        Check.law(x, "12");
        due("lost by 12", 1, x.hold(1, 0));
        bound("lost", x, 1, -1);
    }

    /** "to whom it was BOUND (-1: it was FREE). VOID: BAD." */
    private static void release() {
        due("nobody", VOID, alike(0).release(0));
        MustDefendHim x = alike(7);
        check.range("one", 0, 6, VOID, v -> x.release(v));
        due("four releases, of free ones", 4, x.led(3));
        x.hold(60, 0);
        due("to the first", 0, x.release(6));
        x.hold(6, 0);
        due("to the last", 6, x.release(0));
        due("free already", -1, x.release(0));
        due("seven releases", 7, x.led(3));
        x.hold(1, 0);
        x.hold(21, 1);
        due("to itself", 0, x.release(0));
        due("cases ahead stay", 4, x.led(0));
        Check.law(x, "n");
        due("cases ahead stay", 4, x.wins(1, 0));
    }

    /** "A NEW YEAR: all are FREE, no CASES ahead"; "how many were BOUND" */
    private static void year() {
        due("nobody", 0, alike(0).year());
        MustDefendHim x = alike(7);
        Check.law(x, "n");
        due("none", 0, x.year());
        for (int a = 0; a < 6; a++) {
            x.hold(10 * a + a + 1, 0);
        }
        bound("six", x, 1, 2, 3, 4, 5, 6, -1);
        due("n", 6, x.wins(1, 0));
        due("six were", 6, x.year());
        bound("none", x, -1, -1, -1, -1, -1, -1, -1);
        due("n", 0, x.wins(1, 0));
        due("none were", 0, x.year());
        due("years", 3, x.led(2));
        due("cases are led on", 6, x.led(0));
        due("fees are led on", 30, x.led(4));
        due("people stay", 7, x.count(0));
    }

    /** "LED: CASES (what 0), won by who charged (1), years (2), releases (3), fees (4). BAD." */
    private static void led() {
        MustDefendHim x = alike(2);
        check.range("what", 0, 4, BAD, v -> x.led(v));
        x.mend(0, 3, 0);
        x.mend(1, 3, 99);
        x.hold(1, 0);
        x.release(0);
        due("0 paid 0", 0, x.led(4));
        x.hold(1, 1);
        due("1 paid 99", 99, x.led(4));
        x.hold(10, 0);
        due("1 paid 99", 198, x.led(4));
        x.year();
        int[] want = {3, 1, 1, 1, 198};
        for (int what = 0; what < 5; what++) {
            due("led " + what, want[what], x.led(what));
        }
        x.mend(1, 3, 0);
        due("what was paid stays", 198, x.led(4));
    }

    /** "STATE: there is none" */
    private static void imageIsThere() {
        MustDefendHim x = alike(2);
        due("none", STATE, x.back());
        x.hold(1, 0);
        due("none", STATE, x.back());
        bound("nothing is laid back", x, 1, -1);
        due("an image", 1, x.image());
        due("it is there", 1, x.back());
        due("it stays", 1, x.back());
        MustDefendHim empty = new MustDefendHim();
        due("an image of nobody", 0, empty.image());
        due("laid back", 0, empty.back());
    }

    /** "AN IMAGE keeps who is BOUND, CASES ahead, what LED tells": that, and no more */
    private static void imageOfAll() {
        MustDefendHim x = alike(3);
        Check.law(x, "n");
        x.hold(1, 1);
        x.year();
        x.release(1);
        x.hold(1, 0);
        x.hold(12, 0);
        due("three cases", 3, x.image());
        x.release(0);
        x.hold(1, 1);
        x.mend(0, 0, 9);
        x.feed('1');
        x.body(3);
        x.row(0, 0, 1);
        x.put(0, 0, 7);
        x.year();
        due("none ahead", 0, x.wins(1, 0));
        due("laid back", 3, x.back());
        bound("as it was", x, 1, 2, -1);
        due("ahead", 2, x.wins(21, 0));
        int[] want = {3, 1, 1, 1, 15};
        for (int what = 0; what < 5; what++) {
            due("led " + what, want[what], x.led(what));
        }
        due("what was mended stays", 9, x.of(0, 0));
        due("a change stays", 1, x.count(3));
        due("the tape stays", 1, x.count(2));
        due("a body stays", 1, x.count(4));
        due("a row stays", 7, x.element(0, 0));
        x.year();
        x.image();
        x.hold(1, 0);
        due("the later image is laid back", 3, x.back());
        bound("as it was then", x, -1, -1, -1);
        due("years", 2, x.led(2));
    }

    /** "(PEOPLE that came since are FREE)" */
    private static void cameSince() {
        MustDefendHim x = alike(2);
        x.hold(1, 0);
        x.image();
        for (int one = 2; one < 7; one++) {
            x.person(0, 0);
        }
        x.hold(61, 0);
        x.hold(2, 0);
        x.hold(23, 0);
        bound("since", x, 2, -1, 3, -1, -1, -1, 1);
        due("laid back", 1, x.back());
        bound("those that came since are free", x, 1, -1, -1, -1, -1, -1, -1);
        due("they stay", 7, x.count(0));
        due("of no people at all", 0, new MustDefendHim().image());
        MustDefendHim y = new MustDefendHim();
        y.image();
        y.person(0, 0);
        y.person(0, 0);
        y.hold(1, 0);
        due("laid back", 0, y.back());
        bound("both came since", y, -1, -1);
    }

    /** As many cases as an object is good for. */
    private static void manyCases() {
        MustDefendHim x = alike(2);
        x.mend(1, 3, 99);
        for (int i = 1; i <= 480; i++) {
            x.hold(1, 1);
        }
        due("cases", 480, x.led(0));
        due("won", 480, x.led(1));
        due("fees", 480 * 99, x.led(4));
        Check.law(x, "n=480?7;2");
        due("ahead", 7, x.wins(1, 0));
    }
}
