/**
 * The bounds of promises 6 to 8 and of what "Terms" says of THE LAW: the tape, which byte goes on
 * where, how deep, how long a number, ints that wrap, by 0, and what is held within 0 .. 12.
 */
public final class BoundsOfLawTest {
    private static final Check check = new Check("BoundsOfLawTest");
    private static final int BAD = MustDefendHim.BAD, FULL = MustDefendHim.FULL;
    private static final String DIGITS = "0123456789", NAMES = "adohbn";
    // with what an O begins, and with what a text goes on behind one
    private static final String BEGINS = DIGITS + NAMES + "(!-", SUMS = "+-*/%", SIGNS = "|&<=>" + SUMS;
    // the least and the greatest int, as texts
    private static final String LEAST = "(8192*8192*32)", MOST = "(8192*8192*32-1)";

    private static void due(String call, long want, long got) {
        check.due(call, want, got);
    }

    public static void main(String[] args) {
        bytes();
        fullTape();
        tapeIsEmptyThen();
        longestText();
        oneOrMoreLines();
        whichByteGoesOn();
        endsTooEarly();
        digits();
        sixOpen();
        sixOpenBehindOthers();
        intsWrap();
        byZero();
        towardZero();
        oneOrZero();
        whichLineCounts();
        heldWithin();
        withoutAText();
        names();
        faultLeavesTheLaw();
        wins();
        check.end();
    }

    private static int read(String text) {
        return Check.law(new MustDefendHim(), text);
    }

    private static void fault(String text, int place) {
        due("fault of " + text, -100 - place, read(text));
    }

    private static void isText(String text) {
        due("a text: " + text, 1, read(text));
    }

    private static void worth(String text, int want) {
        MustDefendHim x = Check.court(4, 2, 9, 7);
        due("a text: " + text, 1, Check.law(x, text));
        due("worth of " + text, want, x.wins(1, 0));
    }

    /** Whether what the text says is so. */
    private static void isSo(String text) {
        worth(text + "?7;3", 7);
    }

    /** "A byte (0 .. 255) comes to THE TAPE" */
    private static void bytes() {
        check.range("byte", 0, 255, BAD, v -> new MustDefendHim().feed(v));
        MustDefendHim x = new MustDefendHim();
        for (int letter = 0; letter < 120; letter++) {
            due("how many it has", letter + 1, x.feed(letter));
            due("a refused one does not come", BAD, x.feed(letter % 2 == 0 ? -1 : 256));
            due("how many", letter + 1, x.count(2));
        }
    }

    /** "FULL (120)" */
    private static void fullTape() {
        MustDefendHim x = Check.court(0, 0, 0, 0);
        for (int i = 1; i <= 119; i++) {
            x.feed(i % 2 == 1 ? '0' : '+');
        }
        due("119", 119, x.count(2));
        due("the 120th", 120, x.feed('+'));
        due("the 121st", FULL, x.feed('9'));
        due("120", 120, x.count(2));
        due("it ends too early at 120: the 121st did not come", -220, x.law());
        due("there is room again", 1, x.feed('9'));
    }

    /** "THE TAPE is empty then", by a text and by a fault */
    private static void tapeIsEmptyThen() {
        MustDefendHim x = Check.court(0, 0, 0, 0);
        due("nothing ends too early", -100, x.law());
        due("a text", 1, Check.law(x, "7"));
        due("empty", 0, x.count(2));
        due("a fault", -101, Check.law(x, "7x8"));
        due("empty", 0, x.count(2));
        due("nothing is left", 1, Check.law(x, "8"));
        due("8 counts", 8, x.wins(1, 0));
        due("nothing ends too early", -100, x.law());
        due("8 still counts", 8, x.wins(1, 0));
    }

    private static String sum(int length, String last) {
        StringBuilder b = new StringBuilder();
        while (b.length() < length - last.length()) {
            b.append(b.length() % 2 == 0 ? "0" : "+");
        }
        return b + last;
    }

    /** "a TEXT by THE TAPE (at most 120 bytes)" */
    private static void longestText() {
        worth("9", 9);
        worth(sum(119, "9"), 9);
        worth(sum(120, "11"), 11);
        fault(sum(120, "+"), 120);
        fault(sum(120, "x"), 119);
        StringBuilder lines = new StringBuilder();
        for (int i = 0; i < 29; i++) {
            lines.append("0?0;");
        }
        worth(lines + "0?07", 0);
        worth(lines + "1?07", 7);
        StringBuilder wide = new StringBuilder("8");
        while (wide.length() < 119) {
            wide.append(";0");
        }
        worth(wide.toString(), 8);
        String nested = "((((((1))))))+";
        StringBuilder many = new StringBuilder();
        while (many.length() + nested.length() < 119) {
            many.append(nested);
        }
        worth(many + "3", 3 + many.length() / nested.length());
    }

    /** "LINES, one or more, parted by ;" */
    private static void oneOrMoreLines() {
        fault("", 0);
        isText("1");
        isText("1;2");
        isText("1;2;3");
        fault(";", 0);
        fault(";1", 0);
        fault("1;", 2);
        fault("1;;2", 2);
        fault("1;2;", 4);
        isText("1?2;3?4");
        fault("1?;2", 2);
        fault("1?2;?3", 4);
    }

    /** With each of 256 bytes behind a text's beginning: either it goes on, or there is the fault. */
    private static void goesOn(String ahead, String by) {
        for (int letter = 0; letter <= 255; letter++) {
            int answer = read(ahead + (char) letter);
            boolean faulty = answer == -100 - ahead.length();
            check.holds(ahead + " then byte " + letter, faulty == (by.indexOf(letter) < 0));
        }
    }

    /** "FAULT: the place (from 0) of the first byte with which no TEXT goes on"; "No blanks" */
    private static void whichByteGoesOn() {
        goesOn("", BEGINS);
        for (String ahead : new String[] {"1+", "1-", "1*", "1/", "1%", "1|", "1&", "1<", "1=", "1>", "1?", "1;",
                "(", "!", "-", "1?2;", "((((("}) {
            goesOn(ahead, BEGINS);
        }
        goesOn("1", DIGITS + SIGNS + "?;");
        goesOn("123", DIGITS + SIGNS + "?;");
        goesOn("1234", SIGNS + "?;");
        goesOn("0000", SIGNS + "?;");
        goesOn("a", SIGNS + "?;");
        goesOn("!n", SIGNS + "?;");
        goesOn("-h", SIGNS + "?;");
        goesOn("(b)", SIGNS + "?;");
        goesOn("a+d", SIGNS + "?;");
        goesOn("a&d", SIGNS + "?;");
        for (String one : new String[] {"<", "=", ">"}) {
            goesOn("a" + one + "d", "|&" + SUMS + "?;");
            goesOn("a" + one + "d+o", "|&" + SUMS + "?;");
            goesOn("a" + one + "d&o", SIGNS + "?;");
            goesOn("a" + one + "d|o", SIGNS + "?;");
            goesOn("(a" + one + "d)", SIGNS + "?;");
            goesOn("(a" + one + "d", "|&" + SUMS + ")");
        }
        goesOn("a?d", SIGNS + ";");
        goesOn("a?d;o", SIGNS + "?;");
        goesOn("(a", SIGNS + ")");
        goesOn("((a)", SIGNS + ")");
        goesOn("a?(d", SIGNS + ")");
        goesOn("((((((", DIGITS + NAMES);
        goesOn("!!!!!!", DIGITS + NAMES);
        goesOn("------", DIGITS + NAMES);
        goesOn("((((((a", SIGNS + ")");
        goesOn("((((((a)", SIGNS + ")");
    }

    /** "the length, if it ends too early" */
    private static void endsTooEarly() {
        for (String text : new String[] {"", "1+", "a*", "a<", "1?", "1;", "(", "(1", "((1)", "!", "-", "1?(", "a|",
                "a&", "1?2;", "(((((("}) {
            fault(text, text.length());
        }
    }

    /** "a number (1 to 4 digits)" */
    private static void digits() {
        worth("7", 7);
        worth("07", 7);
        worth("007", 7);
        worth("0007", 7);
        fault("00007", 4);
        fault("12345", 4);
        fault("a+12345", 6);
        isSo("9999=5000*2-1");
        isSo("1000=500+500");
        isSo("0=0000");
        fault("()", 1);
    }

    private static String times(String sign, int many) {
        return sign.repeat(many);
    }

    /** "At most 6 of ( ! - ahead of an O are open at once": 5, 6 and 7 of each and of them mixed */
    private static void sixOpen() {
        for (int many = 1; many <= 8; many++) {
            for (String sign : new String[] {"(", "!", "-", "(!", "!(", "-(", "(-", "!-", "(!-"}) {
                String ahead = times(sign, many).substring(0, many);
                StringBuilder text = new StringBuilder(ahead).append("1");
                for (char c : ahead.toCharArray()) {
                    text.append(c == '(' ? ")" : "");
                }
                due("open: " + text, many <= 6 ? 1 : -106, read(text.toString()));
            }
        }
        worth("((((((9))))))", 9);
        worth("------9", 9);
        worth("!!!!!!9", 1);
        worth("-(-(-(9)))+!(!0)+9+9", 9);
        fault("-(-(-(-(9))))", 6);
    }

    /** What is closed is no more open; a - between two is not ahead of an O. */
    private static void sixOpenBehindOthers() {
        isText("((((((1))))))+((((((1))))))");
        isText("!!!!!!1+!!!!!!1");
        isText("------1-------1");
        fault("------1--------1", 14);
        isText("((((((1-1))))))");
        fault("((((((1+-1))))))", 8);
        isText("(((((1+-1)))))");
        fault("(((((1+--1)))))", 8);
        isText("(((((-1)+-1))))");
        isText("((((((1))))))?((((((1))))));((((((1))))))");
        isText("(((((!1&!1)))))");
        fault("(((((!!1)))))", 6);
    }

    /** "Ints that wrap" */
    private static void intsWrap() {
        isSo(LEAST + "<0");
        isSo(MOST + ">0");
        isSo(MOST + "+1=" + LEAST);
        isSo(LEAST + "-1=" + MOST);
        isSo(MOST + "+" + MOST + "=-2");
        isSo(LEAST + "+" + LEAST + "=0");
        isSo("-" + LEAST + "=" + LEAST);
        isSo("-" + MOST + "-1=" + LEAST);
        isSo(LEAST + "*-1=" + LEAST);
        isSo(MOST + "*2=-2");
        isSo(LEAST + "*2=0");
        isSo("8192*8192*64=0");
        isSo("9999*9999*9999/1000/1000=-1027");
        isSo("0-" + LEAST + "=" + LEAST);
    }

    /** "/ and % .. by 0 they give 0" */
    private static void byZero() {
        for (String above : new String[] {"0", "7", "-7", LEAST, MOST}) {
            isSo(above + "/0=0");
            isSo(above + "%0=0");
            isSo(above + "/(3-3)=0");
            isSo(above + "%(3-3)=0");
        }
        worth("7/0+5", 5);
        worth("7%0+5", 5);
        worth("7/0*3+5/1", 5);
        isSo("0/7=0");
        isSo("0%7=0");
    }

    /** "/ and % toward 0" */
    private static void towardZero() {
        isSo("7/2=3");
        isSo("-7/2=-3");
        isSo("7/-2=-3");
        isSo("-7/-2=3");
        isSo("7%2=1");
        isSo("-7%2=-1");
        isSo("7%-2=1");
        isSo("-7%-2=-1");
        isSo("-1/2=0");
        isSo("1/-2=0");
        isSo(LEAST + "/-1=" + LEAST);
        isSo(LEAST + "%-1=0");
        isSo(LEAST + "/1=" + LEAST);
        isSo(MOST + "/-1=-" + MOST);
        isSo(LEAST + "%2=0");
        isSo(LEAST + "/2=-8192*8192*16");
    }

    /** "| & < = > ! give 1, 0" */
    private static void oneOrZero() {
        String[] some = {"0", "1", "-1", "5", LEAST, MOST};
        int[] worth = {0, 1, -1, 5, Integer.MIN_VALUE, Integer.MAX_VALUE};
        for (int i = 0; i < some.length; i++) {
            worth("3+!" + some[i], worth[i] == 0 ? 4 : 3);
            for (int k = 0; k < some.length; k++) {
                String pair = some[i] + "#" + some[k] + ")+3";
                worth("(" + pair.replace("#", "|"), worth[i] != 0 || worth[k] != 0 ? 4 : 3);
                worth("(" + pair.replace("#", "&"), worth[i] != 0 && worth[k] != 0 ? 4 : 3);
                worth("(" + pair.replace("#", "<"), worth[i] < worth[k] ? 4 : 3);
                worth("(" + pair.replace("#", "="), worth[i] == worth[k] ? 4 : 3);
                worth("(" + pair.replace("#", ">"), worth[i] > worth[k] ? 4 : 3);
            }
        }
        worth("2<3", 1);
        worth("3<3", 0);
        worth("3>3", 0);
        worth("3=3", 1);
        worth("!0", 1);
        worth("7|0", 1);
        worth("7&7", 1);
    }

    /** "The first LINE without a first E, or whose first E is not 0, counts; none: 0" */
    private static void whichLineCounts() {
        worth("0?5", 0);
        worth("1?5", 5);
        worth("-1?5", 5);
        worth(LEAST + "?5", 5);
        worth(LEAST + "*2?5;4", 4);
        worth("0?5;6", 6);
        worth("0?5;0?6", 0);
        worth("0?5;0?6;7", 7);
        worth("0?5;2?6;7", 6);
        worth("5;6", 5);
        worth("0;6", 0);
        worth("1?0;6", 0);
        worth("-5;6", 0);
    }

    /** "by how many of twelve who charges wins (held within 0 .. 12)" */
    private static void heldWithin() {
        for (int v = -2; v <= 14; v++) {
            worth(v < 0 ? "" + v : "0+" + v, Math.max(0, Math.min(12, v)));
        }
        worth(LEAST, 0);
        worth(MOST, 12);
        worth("9999", 12);
        worth("-9999", 0);
    }

    /** "Without a text: 6, more by a and by h, less by d" (held within 0 .. 12, too) */
    private static void withoutAText() {
        for (int a = 0; a <= 9; a++) {
            for (int d = 0; d <= 9; d++) {
                for (int h = 0; h <= 1; h++) {
                    MustDefendHim x = Check.court(a, 5, 5, d);
                    x.mend(0, 2, h == 1 ? 1 : 0);
                    due("6 + " + a + " + " + h + " - " + d, Math.max(0, Math.min(12, 6 + a + h - d)), x.wins(1, 0));
                }
            }
        }
    }

    /** "NAMES": a, d, o, h, b, n at their least and their most */
    private static void names() {
        MustDefendHim x = Check.court(0, 9, 9, 0, 4, 5, 4, 5, 4, 5, 4, 5, 4, 5);
        Check.law(x, "a");
        due("a 0", 0, x.wins(1, 0));
        due("a 9", 9, x.wins(10, 0));
        Check.law(x, "d");
        due("d 0", 0, x.wins(1, 0));
        due("d 9", 9, x.wins(10, 0));
        Check.law(x, "b*2");
        due("b 0", 0, x.wins(1, 0));
        for (int a = 0; a < 6; a++) {
            x.hold(10 * a + a + 1, 0);
            due("b " + (a + 1), 2 * (a + 1), x.wins(1, 0));
        }
        Check.law(x, "n");
        due("n 6", 6, x.wins(1, 0));
        Check.law(x, "o+3");
        due("0 speaks for 1", 3, x.wins(61, 0));
        due("0 speaks for itself: it is bound to another", 4, x.wins(60, 0));
        x.year();
        Check.law(x, "n");
        due("n 0", 0, x.wins(1, 0));
        for (int i = 1; i <= 12; i++) {
            x.hold(1, 1);
            due("n goes on", i, x.wins(1, 0));
        }
        x.mend(0, 2, 3);
        Check.law(x, "h+5");
        due("h 1", 6, x.wins(3, 0));
        due("h 0", 5, x.wins(30, 0));
        due("h 0", 5, x.wins(2, 0));
    }

    private static void faultLeavesTheLaw() {
        MustDefendHim x = Check.court(0, 0, 0, 0);
        Check.law(x, "x");
        due("no text yet", 6, x.wins(1, 0));
        Check.law(x, "9");
        for (String text : new String[] {"", "7+", "7x", "12345", "(((((((1)))))))"}) {
            Check.law(x, text);
            due("it stays behind " + text, 9, x.wins(1, 0));
        }
    }

    /** "By how many of twelve a wins (what 0), who would speak (1). BAD." */
    private static void wins() {
        MustDefendHim x = Check.court(1, 1, 1, 1, 1, 1);
        check.range("what", 0, 1, BAD, v -> x.wins(1, v));
        for (int ab = -12; ab <= 120; ab++) {
            boolean is = ab >= 0 && ab / 10 < 3 && ab % 10 < 3 && ab / 10 != ab % 10;
            due("wins " + ab, is ? 6 : BAD, x.wins(ab, 0));
            due("who speaks " + ab, is ? ab % 10 : BAD, x.wins(ab, 1));
        }
        for (int i = 0; i < 4; i++) {
            x.person(1, 1);
        }
        due("of seven", 6, x.wins(65, 0));
        due("the seventh", 6, x.wins(6, 1));
        due("an eighth", BAD, x.wins(67, 0));
        due("an eighth", BAD, x.wins(76, 0));
        x.hold(1, 0);
        due("as if it were let", 6, x.wins(2, 0));
    }
}
