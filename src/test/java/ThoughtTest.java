/** Promises 9 to 15, 18, 22 and 23: courses, whom to charge, how few cases, draws. */
public final class ThoughtTest {
    private static final Check check = new Check("ThoughtTest");
    private static final int VOID = MustDefendHim.VOID, STATE = MustDefendHim.STATE;

    private static void due(String call, long want, long got) {
        check.due(call, want, got);
    }

    public static void main(String[] args) {
        course();
        courseEnds();
        best();
        beside();
        tillBound();
        round();
        sure();
        quiet();
        friend();
        drawn();
        check.end();
    }

    private static void course() {
        MustDefendHim x = Check.court(5, 3, 2, 8, 4, 4);
        Check.bytes(x, 0, 0, 1, 0, 2, 1, 0, 2, 0, 1);
        due("2 is not free at the third", 2, x.course(0, -1));
        due("0 spoke for 1 and is free", -1, x.course(0, 0));
        due("1", -1, x.course(0, 1));
        due("2 is bound to 1", 1, x.course(0, 2));
        due("in thought alone", -1, x.of(2, 4));
        due("in thought alone", 0, x.led(0));
        due("nobody", VOID, x.course(0, 3));
        due("nobody", VOID, x.course(0, -2));
        due("no shelf", VOID, x.course(6, -1));
        due("no shelf", VOID, x.course(-1, -1));
        due("an empty shelf", VOID, x.course(1, -1));
        x.row(1, 2, 3);
        due("ints", VOID, x.course(1, -1));
        x.body(0);
        x.keep(1, 0);
        due("a body", VOID, x.course(1, -1));
        Check.bytes(x, 1, 0, 1, 1, 0, 1);
        due("what lacks", 1, x.course(1, -1));
        Check.bytes(x, 1, 0, 1, 1, 1, 1, 1);
        due("alike", 1, x.course(1, -1));
        Check.bytes(x, 1, 0, 1, 1, 0, 1, -1);
        due("an end that is none", 1, x.course(1, -1));
        Check.bytes(x, 1, 0, 1, 1, 0, 1, 2);
        due("an end that is none", 1, x.course(1, -1));
        Check.bytes(x, 1, 0, 1, 1, 0, 3, 1);
        due("nobody is charged", 1, x.course(1, -1));
        Check.bytes(x, 1, 0, 1, 1, 3, 0, 1);
        due("nobody charges", 1, x.course(1, -1));
        x.row(1, 0, 60);
        for (int i = 0; i < 20; i++) {
            x.put(1, 3 * i + 1, 1);
            x.put(1, 3 * i + 2, 1);
        }
        due("twenty", 20, x.course(1, -1));
        x.hold(1, 0);
        due("from now", 0, x.course(1, -1));
        due("from now", 1, x.course(1, 0));
    }

    private static void courseEnds() {
        MustDefendHim x = Check.court(5, 3, 2, 8, 4, 4);
        x.mend(1, 3, 20);
        x.mend(2, 3, 1);
        Check.law(x, "n+1");
        Check.bytes(x, 0, 0, 1, 1, 0, 1, 0, 2, 1, 0);
        due("one, ten, nine of twelve", 52083, x.ends(0, 0, 0));
        due("whoever is asked for", 52083, x.ends(0, 2, 0));
        due("gets 20, pays 5", 15, x.ends(0, 0, 1));
        due("pays 20, gets 5 and 1", -14, x.ends(0, 1, 1));
        due("pays 1", -1, x.ends(0, 2, 1));
        x.row(1, 0, 0);
        due("nothing is sure", 1000000, x.ends(1, 0, 0));
        due("no fees", 0, x.ends(1, 0, 1));
        due("-1 is nobody", VOID, x.ends(0, -1, 0));
        due("nobody", VOID, x.ends(0, 3, 1));
        due("what", VOID, x.ends(0, 0, 2));
        due("what", VOID, x.ends(0, 0, -1));
        due("an empty shelf", VOID, x.ends(2, 0, 0));
        due("no shelf", VOID, x.ends(6, 0, 0));
        Check.law(x, "0");
        due("an end without a twelfth", 0, x.ends(0, 0, 0));
        Check.law(x, "n=0?1;11");
        Check.bytes(x, 1, 0, 1, 1, 0, 1, 1, 0, 1, 1);
        due("cut one after the other: 83333, 76388, 70022", 70022, x.ends(1, 0, 0));
    }

    private static void best() {
        MustDefendHim x = Check.court(3, 5, 3, 7, 3, 2, 3, 7, 3, 2);
        due("to win", 2, x.best(0, 0));
        due("to lose", 1, x.best(0, 1));
        due("not itself", 4, x.best(2, 0));
        due("not itself", 3, x.best(1, 1));
        due("what", -1, x.best(0, 2));
        due("what", -1, x.best(0, -1));
        due("nobody", -1, x.best(5, 0));
        due("nobody", -1, x.best(-1, 0));
        x.hold(2, 0);
        due("not free", -2, x.best(0, 0));
        due("bad ahead of not", -1, x.best(0, 2));
        due("who speaks counts", 4, x.best(1, 0));
        due("alone", -2, Check.court(1, 1).best(0, 0));
    }

    private static void beside() {
        MustDefendHim x = Check.court(3, 5, 3, 7);
        int[] above = {1, 11, 5, 3, 2, 7, 1, 5, 1, 1, 1, 1, 0};
        int[] below = {1, 12, 6, 4, 3, 12, 2, 12, 3, 4, 6, 12, 1};
        for (int w = 0; w <= 12; w++) {
            Check.law(x, "" + w);
            due("above, by " + w, above[w], x.beside(1, 0));
            due("below, by " + w, below[w], x.beside(1, 1));
        }
        Check.law(x, "0");
        x.hold(1, 0);
        due("not let", 0, x.beside(1, 0));
        due("not let", 1, x.beside(1, 1));
        due("let", 1, x.beside(10, 0));
        due("part", Long.MIN_VALUE, x.beside(1, 2));
        due("part", Long.MIN_VALUE, x.beside(1, -1));
        due("alike", Long.MIN_VALUE, x.beside(11, 0));
        due("nobody", Long.MIN_VALUE, x.beside(2, 0));
    }

    private static void tillBound() {
        MustDefendHim x = Check.court(1, 1, 1, 1, 1, 1, 1, 1);
        Check.law(x, "n<7?12;0");
        due("the eighth is lost", 8, x.tillBound(1));
        Check.law(x, "n<8?12;0");
        due("a ninth is too many", -2, x.tillBound(1));
        x.hold(1, 1);
        due("n goes on from now", 8, x.tillBound(1));
        Check.law(x, "6");
        x.hold(12, 0);
        due("bound already", 0, x.tillBound(12));
        due("it must be freed first: it is charged and loses", 2, x.tillBound(10));
        due("another one", 1, x.tillBound(1));
        Check.law(x, "12");
        due("nobody ever loses", -2, x.tillBound(1));
        due("alike", -1, x.tillBound(11));
        due("nobody", -1, x.tillBound(4));
        due("below 0", -1, x.tillBound(-1));
        x.person(1, 1);
        due("five people", STATE, x.tillBound(1));
        due("five people, bound already", STATE, x.tillBound(12));
        due("bad ahead of state", -1, x.tillBound(11));
    }

    private static void round() {
        MustDefendHim x = Check.court(1, 1, 1, 1);
        due("a win changes nothing", 1, x.round());
        Check.law(x, "0");
        due("somebody is bound for ever", -2, x.round());
        Check.law(x, "n=7?12;0");
        due("the eighth is won", 8, x.round());
        Check.law(x, "n=8?12;0");
        due("a ninth is too many", -2, x.round());
        Check.law(x, "0");
        x.hold(1, 0);
        due("there and back", 2, x.round());
        due("nobody", -2, new MustDefendHim().round());
        due("one", -2, Check.court(1, 1).round());
        due("four people", 1, Check.court(1, 1, 1, 1, 1, 1, 1, 1).round());
        due("five people", STATE, Check.court(1, 1, 1, 1, 1, 1, 1, 1, 1, 1).round());
    }

    private static void sure() {
        MustDefendHim x = Check.court(1, 1, 1, 1, 1, 1, 1, 1);
        Check.law(x, "0");
        due("lost for sure", 1, x.sure(1));
        Check.law(x, "1");
        due("it may always be won", -2, x.sure(1));
        Check.law(x, "n=0?6;0");
        due("lost at last, whatever the first brings", 2, x.sure(1));
        Check.law(x, "n<5?12;0");
        due("six", 6, x.sure(1));
        Check.law(x, "n<6?12;0");
        due("seven are too many", -2, x.sure(1));
        x.hold(12, 0);
        due("n goes on from now", 6, x.sure(1));
        due("not free", STATE, x.sure(10));
        due("bound to b already", STATE, x.sure(12));
        due("alike", -1, x.sure(0));
        due("nobody", -1, x.sure(4));
        Check.law(x, "n<2?12;0");
        due("the best next charge", 2, x.sure(1));
        x.person(1, 1);
        due("five people", STATE, x.sure(1));
        due("bad ahead of state", -1, x.sure(11));
        MustDefendHim y = Check.court(1, 1, 1, 1, 1, 1);
        // to win surely against 2 first, so as to lose surely against 1
        Check.law(y, "n=0&d=1?12;n=0?6;n=1?0;12");
        y.mend(1, 1, 5);
        due("not by what may end badly", 2, y.sure(1));
        Check.law(y, "d=1?6;12");
        due("a charge of another one must be sure", -2, y.sure(1));
    }

    private static void quiet() {
        MustDefendHim x = Check.court(3, 5, 3, 7, 3, 2, 0, 9);
        due("worst", 0, x.quiet(0, 0));
        due("0 and 7 are below 12", 1, x.quiet(0, 1));
        due("not against itself", 4, Check.court(0, 9, 0, 2).quiet(0, 0));
        x.mend(0, 0, 9);
        due("6 + 9 - 9", 6, x.quiet(0, 0));
        due("6 and 12", 0, x.quiet(0, 1));
        Check.law(x, "6");
        due("6 and 6", 0, x.quiet(0, 1));
        Check.law(x, "d=9?5;6");
        due("5 and 6", 1, x.quiet(0, 1));
        due("5", 5, x.quiet(0, 0));
        Check.law(x, "12");
        x.hold(1, 0);
        due("not free", 1, x.quiet(0, 1));
        due("its worst, though", 12, x.quiet(0, 0));
        due("nobody", -1, x.quiet(4, 0));
        due("nobody", -1, x.quiet(-1, 0));
        due("what", -1, x.quiet(0, 2));
        due("what", -1, x.quiet(0, -1));
        due("alone", 12, Check.court(0, 0).quiet(0, 0));
        due("alone", 0, Check.court(0, 0).quiet(0, 1));
    }

    private static void friend() {
        MustDefendHim x = Check.court(3, 5, 3, 7, 3, 2);
        due("2 - 0", 2, x.friend(1, 9));
        due("2 - 9", -7, x.friend(1, 0));
        due("like kind", 0, x.friend(1, 7));
        x.hold(21, 0);
        due("instead of 2: 7 - 4", 3, x.friend(1, 5));
        Check.law(x, "o?9;4");
        due("another one than b", 5, x.friend(2, 2));
        due("another one than b", 0, x.friend(1, 2));
        due("kind", VOID, x.friend(1, 10));
        due("kind", VOID, x.friend(1, -1));
        due("alike", VOID, x.friend(0, 1));
        due("nobody", VOID, x.friend(3, 1));
    }

    private static void drawn() {
        MustDefendHim x = Check.court(5, 3, 2, 8, 4, 4, 7, 1);
        Check.law(x, "n=0?12;0");
        due("one case a year", 30, x.drawn(7, 3001, 0, 0));
        due("n begins anew: all are won", 0, x.drawn(7, 3001, 2, 0));
        int won = 0;
        for (int one = 0; one < 4; one++) {
            won += x.drawn(7, 3001, 1, one);
        }
        due("somebody won each", 30, won);
        x.hold(1, 1);
        due("from now: a case is ahead of each year", 30, x.drawn(7, 3001, 2, 0));
        due("nothing is changed", 1, x.led(0));
        yearsFromNow();
        due("no years", -1, x.drawn(7, 40, 0, 0));
        due("31 years", -1, x.drawn(7, 3101, 0, 0));
        due("no cases", -1, x.drawn(7, 100, 0, 0));
        due("61 cases", -1, x.drawn(7, 161, 0, 0));
        due("below 0", -1, x.drawn(7, -101, 0, 0));
        due("what", -1, x.drawn(7, 101, 3, 0));
        due("what", -1, x.drawn(7, 101, -1, 0));
        due("nobody", -1, x.drawn(7, 101, 1, 4));
        due("nobody is asked for", 1, x.drawn(7, 101, 0, 4));
        due("one alone", 0, Check.court(1, 1).drawn(7, 3060, 1, 0));
        MustDefendHim two = Check.court(9, 9, 9, 9);
        Check.law(two, "12");
        due("two are enough", 1800, two.drawn(7, 3060, 0, 0));
        oneDraw();
    }

    /** Each year from who is bound now; only the draws go on from year to year. */
    private static void yearsFromNow() {
        MustDefendHim x = Check.court(0, 0, 0, 0);
        x.hold(1, 0);
        due("0 is bound as each begins", 265, x.drawn(0, 1530, 0, 0));
        Check.law(x, "0");
        int free = 0;
        int z = 11;
        for (int year = 0; year < 30; year++) {
            z = z * 1103515245 + 12345;
            free += (z >>> 4) % 2;
        }
        due("only 1 is let, once in a year", free, x.drawn(11, 3001, 0, 0));
        // 0 stays bound, or it has spoken for itself: then it is free, and 1 is bound to it
        due("one is bound at each end", 30, x.drawn(11, 3001, 2, 0));
        due("0 is bound in deed", 1, x.of(0, 4));
        due("1 is free in deed", -1, x.of(1, 4));
    }

    /** One draw, reckoned here from the document's words. */
    private static void oneDraw() {
        MustDefendHim x = Check.court(5, 3, 2, 8, 4, 4, 7, 1, 0, 0);
        int z = 7 * 1103515245 + 12345;
        int a = (z >>> 4) % 5;
        int b = (z >>> 12) % 4;
        b = b >= a ? b + 1 : b;
        int by = (z >>> 20) % 12;
        Check.law(x, "" + by);
        due("lost by as many", 0, x.drawn(7, 101, 1, a));
        Check.law(x, "" + (by + 1));
        due("won by one more", 1, x.drawn(7, 101, 1, a));
        x.mend(a, 2, b);
        Check.law(x, "h*12");
        due("against b", 1, x.drawn(7, 101, 1, a));
        x.hold(10 * a + b, 0);
        due("not free: nothing happens", 0, x.drawn(7, 101, 0, a));
        due("it stays bound", 1, x.drawn(7, 101, 2, a));
    }
}
