/** Promises 6 to 8 and the law's text: what it gives, and where it is no text. */
public final class LawTest {
    private static final Check check = new Check("LawTest");

    private static void due(String call, long want, long got) {
        check.due(call, want, got);
    }

    public static void main(String[] args) {
        tape();
        withoutText();
        values();
        lines();
        names();
        faults();
        open();
        afterFault();
        wins();
        check.end();
    }

    private static void tape() {
        MustDefendHim x = Check.court(0, 0, 0, 0);
        due("below", -1, x.feed(-1));
        due("above", -1, x.feed(256));
        due("0", 1, x.feed(0));
        due("255", 2, x.feed(255));
        due("on the tape", 2, x.count(2));
        due("fault at 0", -100, x.law());
        due("the tape is empty", 0, x.count(2));
        due("nothing is no text", -100, x.law());
        StringBuilder text = new StringBuilder("05");
        while (text.length() < 120) {
            text.append("-0");
        }
        for (int i = 0; i < 120; i++) {
            due("feed " + i, i + 1, x.feed(text.charAt(i)));
        }
        due("full", -3, x.feed('1'));
        due("bad ahead of full", -1, x.feed(256));
        due("120 on the tape", 120, x.count(2));
        due("a text of 120", 1, x.law());
        due("worth", 5, x.wins(1, 0));
        due("the tape is empty", 0, x.count(2));
    }

    private static void withoutText() {
        MustDefendHim x = Check.court(4, 2, 9, 9, 0, 5);
        due("6 + 4 - 9", 1, x.wins(1, 0));
        due("6 + 9 - 2, held", 12, x.wins(10, 0));
        due("6 + 0 - 9, held", 0, x.wins(21, 0));
        x.mend(0, 2, 1);
        due("hated", 2, x.wins(1, 0));
    }

    private static int worth(String text) {
        MustDefendHim x = Check.court(4, 2, 9, 7, 0, 5);
        return Check.law(x, text) == 1 ? x.wins(1, 0) : -1;
    }

    private static void values() {
        due("7", 7, worth("7"));
        due("0007", 7, worth("0007"));
        due("held above", 12, worth("9999"));
        due("held below", 0, worth("-5"));
        due("times first", 11, worth("5+2*3"));
        due("from the left", 2, worth("9-4-3"));
        due("from the left", 4, worth("8/4*2"));
        due("toward 0", 8, worth("10+-5/2"));
        due("rest toward 0", 9, worth("10+-5%2"));
        due("by 0", 3, worth("7/0+3"));
        due("rest by 0", 3, worth("7%0+3"));
        due("brackets", 10, worth("(2+3)*2"));
        due("less", 1, worth("2<3"));
        due("not less", 0, worth("3<3"));
        due("like", 1, worth("3=3"));
        due("unlike", 0, worth("3=4"));
        due("more", 1, worth("4>3"));
        due("not more", 0, worth("3>3"));
        due("sums ahead of comparing", 1, worth("1+1=2"));
        due("both", 1, worth("5&7"));
        due("not both", 0, worth("5&0"));
        due("either", 1, worth("0|7"));
        due("neither", 0, worth("0|0"));
        due("both ahead of either", 1, worth("1|0&0"));
        due("comparing ahead of both", 1, worth("1<2&3=3"));
        due("not", 6, worth("5+!0"));
        due("not", 5, worth("5+!3"));
        due("not binds tighter", 3, worth("!0*3"));
        due("twice", 7, worth("--7"));
        due("not not", 1, worth("!!5"));
        due("less behind minus", 6, worth("4--2"));
        due("wraps", 7, worth("9999*9999*50/9999/9999"));
        due("wraps to the least", 1, worth("(8192*8192*32)=-(8192*8192*32)"));
        due("the least by -1", 1, worth("8192*8192*32/-1<0"));
        due("the least's rest by -1", 4, worth("8192*8192*32%-1+4"));
    }

    private static void lines() {
        due("the first without", 3, worth("3;4"));
        due("the first that is so", 5, worth("0?4;2?5;6"));
        due("below 0 is so", 5, worth("-1?5;6"));
        due("none", 0, worth("0?4;1>2?5"));
        due("the last", 6, worth("0?4;0?5;6"));
        due("names in the first", 9, worth("a<d?9;3"));
        due("brackets in the first", 8, worth("(1|0)&!0?8"));
    }

    private static void names() {
        MustDefendHim x = Check.court(4, 2, 9, 7, 0, 5);
        x.mend(0, 2, 1);
        due("law", 1, Check.law(x, "a"));
        due("a", 4, x.wins(1, 0));
        Check.law(x, "d");
        due("d", 7, x.wins(1, 0));
        Check.law(x, "o");
        due("o", 1, x.wins(1, 0));
        Check.law(x, "h+3");
        due("h", 4, x.wins(1, 0));
        due("not h", 3, x.wins(10, 0));
        x.hold(1, 0);
        Check.law(x, "d");
        due("d of who is bound", 2, x.wins(21, 0));
        Check.law(x, "o+3");
        due("another one", 3, x.wins(21, 0));
        due("itself", 4, x.wins(20, 0));
        Check.law(x, "b");
        due("one is bound", 1, x.wins(21, 0));
        Check.law(x, "n");
        due("one case ahead", 1, x.wins(21, 0));
        x.hold(12, 1);
        due("two cases ahead", 2, x.wins(21, 0));
        x.year();
        due("none ahead", 0, x.wins(21, 0));
    }

    private static void fault(String text, int place) {
        due("fault of " + text, -100 - place, Check.law(new MustDefendHim(), text));
    }

    private static void faults() {
        fault("1+", 2);
        fault("+1", 0);
        fault("1 +1", 1);
        fault("12345", 4);
        fault("1a", 1);
        fault("a1", 1);
        fault("aa", 1);
        fault("x", 0);
        fault("1<2<3", 3);
        fault("1<2=3", 3);
        fault("(1<2)<3;", 8);
        fault("1?", 2);
        fault("1?2?3", 3);
        fault("(1?2)", 2);
        fault(";1", 0);
        fault("1;", 2);
        fault("1;;2", 2);
        fault("1)", 1);
        fault("(1", 2);
        fault("(1;2)", 2);
        fault("()", 1);
        fault("1!", 1);
        fault("!", 1);
        fault("1*/2", 2);
        fault("1*-", 3);
        fault("1||2", 2);
        fault("(1)2", 3);
        fault("?1", 0);
        fault("1?2;3?4?5", 7);
        due("several comparisons", 1, Check.law(new MustDefendHim(), "1<2&2<3|(3=3)=1?1<2;a*-d"));
    }

    private static void open() {
        due("six brackets", 1, Check.law(new MustDefendHim(), "((((((1))))))"));
        fault("(((((((1)))))))", 6);
        due("six signs", 1, Check.law(new MustDefendHim(), "!-!-!-1"));
        fault("!-!-!-!1", 6);
        fault("------(1)", 6);
        due("mixed", 1, Check.law(new MustDefendHim(), "(!(-(!1+-1)))"));
        fault("(!(-(!(1))))", 6);
        due("closed again", 1, Check.law(new MustDefendHim(), "!!!!!!1+!!!!!!1*((((((1))))))-(((((-1)))))"));
        due("a minus between is none", 1, Check.law(new MustDefendHim(), "((((((1-1))))))"));
        fault("((((((1--1))))))", 8);
    }

    private static void afterFault() {
        MustDefendHim x = Check.court(4, 2, 9, 7);
        Check.law(x, "5");
        due("fault", -102, Check.law(x, "7+"));
        due("the law stays", 5, x.wins(1, 0));
        due("the tape is empty", 0, x.count(2));
        due("another law", 1, Check.law(x, "8"));
        due("it counts", 8, x.wins(1, 0));
        MustDefendHim y = Check.court(4, 2, 9, 7);
        Check.law(y, "7+");
        due("still no text", 3, y.wins(1, 0));
    }

    private static void wins() {
        MustDefendHim x = Check.court(4, 2, 9, 7, 0, 5);
        for (int ab : new int[] {-1, -10, 0, 11, 3, 30, 100, 101, 12345, Integer.MIN_VALUE, Integer.MAX_VALUE}) {
            due("wins " + ab, -1, x.wins(ab, 0));
            due("who speaks " + ab, -1, x.wins(ab, 1));
        }
        due("what", -1, x.wins(1, 2));
        due("what", -1, x.wins(1, -1));
        due("itself speaks", 1, x.wins(1, 1));
        x.hold(21, 0);
        due("who is bound speaks", 2, x.wins(1, 1));
        x.hold(1, 1);
        due("bound to itself now", 2, x.of(2, 4));
        due("itself", 1, x.wins(1, 1));
        x.year();
        x.hold(20, 0);
        x.hold(10, 0);
        due("2 spoke and is free", -1, x.of(2, 4));
        x.hold(20, 1);
        due("1 spoke and is bound to itself", 1, x.of(1, 4));
        x.year();
        x.hold(1, 0);
        due("as if it were let: who charges speaks", 0, x.wins(1, 1));
        due("by its own kind", 8, x.wins(1, 0));
    }
}
