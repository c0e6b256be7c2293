/**
 * The bounds of promises 16, 17 and 19 to 21: 10 charges and 6 for days, 16 cases of a roll, 8
 * unknown ends, what lacks, what is none, the likelier end and fewer twelfths than the other one.
 */
public final class BoundsOfRollTest {
    private static final Check check = new Check("BoundsOfRollTest");
    private static final int BAD = MustDefendHim.BAD, NOT = MustDefendHim.NOT, STATE = MustDefendHim.STATE;

    private static void due(String call, long want, long got) {
        check.due(call, want, got);
    }

    public static void main(String[] args) {
        shelves();
        tenCharges();
        chargesEnd();
        never();
        threes();
        sixForDays();
        dayOfTheKth();
        sixteenOfARoll();
        whatLacks();
        whatIsNone();
        noTwelfth();
        likelierEnd();
        eightUnknown();
        unknownOfNobody();
        likeliestWay();
        productOfTwelfths();
        sold();
        check.end();
    }

    private static MustDefendHim alike(int people, String law) {
        MustDefendHim x = new MustDefendHim();
        for (int i = 0; i < people; i++) {
            x.person(0, 0);
        }
        Check.law(x, law);
        return x;
    }

    /** "BAD, -11, -12" of all five */
    private static void shelves() {
        MustDefendHim x = alike(2, "6");
        x.body(0);
        for (int shelf = -1; shelf <= 6; shelf++) {
            boolean is = shelf >= 0 && shelf <= 5;
            ofShelf(x, shelf, is ? -11 : BAD);
            for (int sort = 1; sort <= 4; sort++) {
                x.row(shelf, sort, 6);
                ofShelf(x, shelf, is ? -12 : BAD);
            }
            x.keep(shelf, 0);
            ofShelf(x, shelf, is ? -12 : BAD);
        }
        x.row(0, 0, 0);
        check.range("what of charges", 0, 2, BAD, v -> x.charges(0, v));
        check.range("what of roll", 0, 1, BAD, v -> x.roll(0, v));
        due("k below", BAD, x.days(0, -2));
        due("k far below", BAD, x.days(0, Integer.MIN_VALUE));
        due("no charge: no day", 0, x.days(0, -1));
        due("no charge: none is the first", NOT, x.days(0, 0));
        due("an empty roll has no wrong case", NOT, x.judge(0));
        due("one way", 1, x.roll(0, 0));
        due("of no bits", 0, x.roll(0, 1));
        due("none is sold", NOT, x.sold(0));
    }

    private static void ofShelf(MustDefendHim x, int shelf, int want) {
        due("charges", want, x.charges(shelf, 2));
        due("days", want, x.days(shelf, -1));
        due("judge", want, x.judge(shelf));
        due("roll", want, x.roll(shelf, 0));
        due("sold", want, x.sold(shelf));
    }

    /** "(.. 10 at most)": 9, 10, 11 and what the eleventh would change */
    private static void tenCharges() {
        for (int many = 0; many <= 30; many++) {
            MustDefendHim x = alike(4, "6");
            x.row(0, 0, 2 * many);
            for (int i = 0; i < many; i++) {
                x.put(0, 2 * i, i == 10 ? 2 : 0);
                x.put(0, 2 * i + 1, i == 10 ? 3 : i == 9 ? 2 : 1);
            }
            due(many + " charges", Math.min(10, many), x.charges(0, 2));
            int never = many == 0 ? 15 : many < 10 ? 13 : 9;
            due("never charged by " + many, never, x.charges(0, 0));
        }
        MustDefendHim x = alike(4, "6");
        Check.bytes(x, 0, 0, 1, 1, 2, 0, 1, 0, 1, 0, 1, 0, 1, 0, 1, 0, 1, 0, 1, 2, 0);
        due("the tenth makes a round", 1, x.charges(0, 1));
        Check.bytes(x, 0, 0, 1, 1, 2, 0, 1, 0, 1, 0, 1, 0, 1, 0, 1, 0, 1, 0, 1, 0, 1, 2, 0);
        due("the eleventh makes none", 0, x.charges(0, 1));
    }

    /** "as far as PEOPLE that are there, unlike"; half a charge is none */
    private static void chargesEnd() {
        for (int a : new int[] {-128, -1, 0, 1, 2, 3, 127}) {
            for (int b : new int[] {-128, -1, 0, 1, 2, 3, 127}) {
                MustDefendHim x = alike(3, "6");
                Check.bytes(x, 0, 0, 1, a, b, 0, 2);
                boolean is = a >= 0 && a <= 2 && b >= 0 && b <= 2 && a != b;
                due(a + " " + b, is ? 3 : 1, x.charges(0, 2));
                check.holds("behind it nothing counts", is || x.charges(0, 0) == 5);
            }
        }
        MustDefendHim x = alike(3, "6");
        for (int size = 0; size <= 7; size++) {
            x.row(1, 0, size);
            for (int i = 1; i < size; i += 2) {
                x.put(1, i, 1);
            }
            due("size " + size, size / 2, x.charges(1, 2));
        }
    }

    /** "NEVER: who (bits) is charged in none of them" */
    private static void never() {
        for (int people = 0; people <= 7; people++) {
            MustDefendHim x = alike(people, "6");
            x.row(0, 0, 0);
            due("none is charged of " + people, (1 << people) - 1, x.charges(0, 0));
        }
        MustDefendHim x = alike(7, "6");
        Check.bytes(x, 0, 1, 0, 0, 1, 0, 2, 0, 3, 0, 4, 0, 5, 0, 6);
        due("all are charged", 0, x.charges(0, 0));
        x.row(0, 0, 12);
        for (int i = 0; i < 6; i++) {
            x.put(0, 2 * i, 6);
            x.put(0, 2 * i + 1, i);
        }
        due("but for the last", 64, x.charges(0, 0));
    }

    /** "how many sets of three PEOPLE charge one another round .. (both ways round count once each)" */
    private static void threes() {
        MustDefendHim x = alike(7, "6");
        Check.bytes(x, 0, 0, 1, 1, 2);
        due("two charges", 0, x.charges(0, 1));
        Check.bytes(x, 0, 0, 1, 1, 2, 2, 0);
        due("three", 1, x.charges(0, 1));
        Check.bytes(x, 0, 2, 1, 1, 0, 0, 2);
        due("three the other way", 1, x.charges(0, 1));
        Check.bytes(x, 0, 0, 1, 1, 2, 2, 0, 2, 1, 1, 0);
        due("the other way lacks one", 1, x.charges(0, 1));
        Check.bytes(x, 0, 0, 1, 1, 2, 2, 0, 2, 1, 1, 0, 0, 2);
        due("both ways", 2, x.charges(0, 1));
        Check.bytes(x, 0, 4, 5, 5, 6, 6, 4);
        due("the last three", 1, x.charges(0, 1));
        Check.bytes(x, 0, 0, 1, 1, 2, 2, 3, 3, 0);
        due("four round are no three", 0, x.charges(0, 1));
        Check.bytes(x, 0, 0, 1, 1, 2, 2, 0, 0, 1, 1, 2, 2, 0);
        due("the same told twice", 1, x.charges(0, 1));
    }

    /** "(6 CHARGES at most, else STATE)": 5, 6, 7, and a row whose seventh is none */
    private static void sixForDays() {
        MustDefendHim x = alike(2, "6");
        for (int many = 0; many <= 12; many++) {
            x.row(0, 0, 2 * many);
            for (int i = 0; i < many; i++) {
                x.put(0, 2 * i + i % 2, 1);
            }
            int days = many == 0 ? 0 : many == 1 ? 1 : 2;
            due("days of " + many, many <= 6 ? days : STATE, x.days(0, -1));
            if (many > 0) {
                due("the last of " + many, many <= 6 ? (many + 1) % 2 : STATE, x.days(0, many - 1));
            }
            due("not as many as " + many, many > 6 ? STATE : NOT, x.days(0, many));
        }
        Check.bytes(x, 0, 1, 0, 1, 0, 1, 0, 1, 0, 1, 0, 1, 0, 1);
        due("half a seventh", 1, x.days(0, -1));
        Check.bytes(x, 0, 1, 0, 1, 0, 1, 0, 1, 0, 1, 0, 1, 0, 1, 1);
        due("a seventh of alike ones", 1, x.days(0, -1));
        Check.bytes(x, 0, 1, 0, 1, 0, 1, 0, 1, 0, 1, 0, 1, 0, 1, 2);
        due("a seventh of nobody", 1, x.days(0, -1));
        Check.bytes(x, 0, 1, 0, 1, 0, 1, 0, 1, 0, 1, 0, 1, 0, 1, 0);
        due("a seventh", STATE, x.days(0, -1));
    }

    /** "nobody charges in a day in which it is charged"; "NOT: there are not as many" */
    private static void dayOfTheKth() {
        MustDefendHim x = alike(4, "6");
        // all six among 0, 1, 2: each pair both ways
        Check.bytes(x, 0, 0, 1, 1, 0, 0, 2, 2, 0, 1, 2, 2, 1);
        int[] want = {0, 1, 0, 2, 1, 2};
        due("three days", 3, x.days(0, -1));
        for (int k = 0; k < 6; k++) {
            due("day of " + k, want[k], x.days(0, k));
        }
        for (int k : new int[] {6, 7, 100, Integer.MAX_VALUE}) {
            due("not as many: " + k, NOT, x.days(0, k));
        }
        Check.bytes(x, 0, 0, 1, 0, 2, 0, 3);
        due("one charges all", 1, x.days(0, -1));
        Check.bytes(x, 0, 1, 0, 2, 0, 3, 0);
        due("all charge one", 1, x.days(0, -1));
        Check.bytes(x, 0, 0, 1, 0, 1);
        due("the same twice", 1, x.days(0, -1));
        Check.bytes(x, 0, 0, 1, 2, 3);
        due("apart", 1, x.days(0, -1));
        Check.bytes(x, 0, 0, 1, 1, 2);
        due("1 stands on both sides", 2, x.days(0, -1));
    }

    private static void wins(MustDefendHim x, int cases, int size) {
        x.row(0, 0, size);
        for (int i = 0; i < cases; i++) {
            x.put(0, 3 * i + 1, 1);
            x.put(0, 3 * i + 2, 1);
        }
    }

    private static void all(String what, MustDefendHim x, int judged, int ways, int likeliest, int sold) {
        due("judge " + what, judged, x.judge(0));
        due("ways of " + what, ways, x.roll(0, 0));
        due("the likeliest of " + what, likeliest, x.roll(0, 1));
        due("sold of " + what, sold, x.sold(0));
    }

    /** "16 CASES at most": what is wrong, sold or unknown at the 15th, 16th, 17th and 20th */
    private static void sixteenOfARoll() {
        for (int at : new int[] {0, 14, 15, 16, 19}) {
            boolean in = at < 16;
            MustDefendHim x = alike(2, "6");
            wins(x, 20, 60);
            x.put(0, 3 * at, 2);
            all("nobody at " + at, x, in ? at : NOT, in ? 0 : 1, in ? NOT : 0, NOT);
            x.put(0, 3 * at, 0);
            x.put(0, 3 * at + 2, 2);
            all("no end at " + at, x, in ? at : NOT, in ? 0 : 1, in ? NOT : 0, NOT);
            x.put(0, 3 * at + 2, -1);
            // lost, a later one of 0 would not be let: at the last one both ends are so
            all("unknown at " + at, x, NOT, at == 15 ? 2 : 1, in && at < 15 ? 1 : 0, NOT);
            x.put(0, 3 * at + 2, 1);
            Check.law(x, "n=" + at + "?5;6");
            all("sold at " + at, x, NOT, 1, 0, in ? at : NOT);
        }
    }

    /** "what lacks, too": rows that end within a three, up to the sixteenth and behind it */
    private static void whatLacks() {
        for (int size : new int[] {0, 1, 2, 3, 4, 5, 6, 43, 44, 45, 46, 47, 48, 49, 50, 51, 59, 60}) {
            MustDefendHim x = alike(2, "6");
            wins(x, size / 3, size);
            boolean lacks = size < 48 && size % 3 != 0;
            all("size " + size, x, lacks ? size / 3 : NOT, lacks ? 0 : 1, lacks ? NOT : 0, NOT);
        }
    }

    /** "PEOPLE that are none, alike, an end that is none"; "ends 0, 1 or -1" */
    private static void whatIsNone() {
        for (int a : new int[] {-128, -1, 0, 1, 2, 127}) {
            for (int b : new int[] {-128, -1, 0, 1, 2, 127}) {
                for (int end : new int[] {-128, -2, -1, 0, 1, 2, 127}) {
                    MustDefendHim x = alike(2, "6");
                    Check.bytes(x, 0, 0, 1, 1, a, b, end);
                    boolean is = a >= 0 && a <= 1 && b >= 0 && b <= 1 && a != b && end >= -1 && end <= 1;
                    all(a + " " + b + " " + end, x, is ? NOT : 1, !is ? 0 : end == -1 ? 2 : 1, is ? 0 : NOT, NOT);
                }
            }
        }
        MustDefendHim x = alike(3, "6");
        Check.bytes(x, 0, 0, 1, 0, 0, 2, 1);
        all("not free", x, 1, 0, NOT, NOT);
        x.hold(1, 0);
        all("not free from now", x, 0, 0, NOT, NOT);
    }

    /** "an end to which THE LAW gives no twelfth": by 0, 1, 11, 12 */
    private static void noTwelfth() {
        for (int w : new int[] {0, 1, 11, 12}) {
            MustDefendHim x = alike(2, "" + w);
            Check.bytes(x, 0, 0, 1, 1);
            all("won by " + w, x, w == 0 ? 0 : NOT, w == 0 ? 0 : 1, w == 0 ? NOT : 0, w == 1 ? 0 : NOT);
            x.put(0, 2, 0);
            all("lost by " + w, x, w == 12 ? 0 : NOT, w == 12 ? 0 : 1, w == 12 ? NOT : 0, w == 11 ? 0 : NOT);
            x.put(0, 2, -1);
            all("unknown by " + w, x, NOT, w == 0 || w == 12 ? 1 : 2, w >= 6 ? 1 : 0, NOT);
        }
    }

    /** "unknown ends as the likelier one (a wins, if it does by 6 of twelve or more)" */
    private static void likelierEnd() {
        for (int w = 0; w <= 12; w++) {
            MustDefendHim x = alike(3, "n=0?" + w + ";6");
            Check.bytes(x, 0, 0, 1, -1, 0, 2, 1);
            // lost, 0 is bound and its second charge is not let
            due("0 charges again, by " + w, w >= 6 ? NOT : 1, x.judge(0));
            Check.law(x, "n=0?" + w + ";b=1?12;0");
            Check.bytes(x, 0, 0, 1, -1, 2, 0, 1);
            // won, nobody is bound and the second end has no twelfth
            due("2 wins if 0 is bound, by " + w, w >= 6 ? 1 : NOT, x.judge(0));
        }
    }

    /** "(8 unknown ones .. at most, else STATE)": 7, 8, 9 and 16 of them */
    private static void eightUnknown() {
        for (int many = 0; many <= 16; many++) {
            MustDefendHim x = alike(2, "12");
            wins(x, 16, 48);
            for (int i = 0; i < many; i++) {
                x.put(0, 3 * (15 - i) + 2, -1);
            }
            boolean few = many <= 8;
            all(many + " unknown", x, NOT, few ? 1 : STATE, few ? (1 << many) - 1 : STATE, few ? NOT : STATE);
            // behind the sixteenth no end is looked at
            wins(x, 20, 60);
            for (int i = 0; i < Math.min(8, many); i++) {
                x.put(0, 3 * i + 2, -1);
            }
            for (int i = 16; i < 20; i++) {
                x.put(0, 3 * i + 2, -1);
            }
            int bits = (1 << Math.min(8, many)) - 1;
            all(many + " and some behind the sixteenth", x, NOT, 1, bits, NOT);
        }
        MustDefendHim x = alike(7, "6");
        x.row(0, 0, 24);
        for (int i = 0; i < 8; i++) {
            x.put(0, 3 * i, i % 2 == 0 ? 1 : 0);
            x.put(0, 3 * i + 1, i % 2 == 0 ? 0 : 1);
            x.put(0, 3 * i + 2, -1);
        }
        // 1 and 0 in turn: who lost last is bound till the other one's next charge ends
        due("two charge one another in turn, all ways", 256, x.roll(0, 0));
    }

    /** "of PEOPLE that are there" */
    private static void unknownOfNobody() {
        for (int[] nobody : new int[][] {{2, 0}, {0, 2}, {-1, 0}, {0, -1}}) {
            MustDefendHim x = alike(2, "12");
            wins(x, 9, 27);
            for (int i = 0; i < 9; i++) {
                x.put(0, 3 * i + 2, -1);
            }
            due("nine", STATE, x.roll(0, 0));
            x.put(0, 24, nobody[0]);
            x.put(0, 25, nobody[1]);
            all("eight, and one of nobody", x, 8, 0, NOT, NOT);
        }
    }

    /** "first one lowest"; "of like ones the least bits; NOT" */
    private static void likeliestWay() {
        for (int way = 0; way < 8; way++) {
            StringBuilder law = new StringBuilder();
            for (int i = 0; i < 3; i++) {
                law.append("n=").append(i).append("?").append((way >> i & 1) == 1 ? 7 : 5).append(";");
            }
            MustDefendHim x = alike(4, law + "6");
            Check.bytes(x, 0, 0, 1, -1, 2, 3, -1, 1, 2, -1);
            due("way " + way, way, x.roll(0, 1));
            due("all ways", 8, x.roll(0, 0));
            due("the likeliest is not sold", NOT, x.sold(0));
        }
        MustDefendHim x = alike(2, "6");
        Check.bytes(x, 0, 0, 1, -1);
        due("of like ones", 0, x.roll(0, 1));
        Check.law(x, "7");
        due("seven", 1, x.roll(0, 1));
        Check.bytes(x, 0, 0, 1, -1, 0, 0, 1);
        due("no way", 0, x.roll(0, 0));
        due("no way", NOT, x.roll(0, 1));
    }

    /** "by the product of twelfths; of like ones the least bits": told ends count in it, too */
    private static void productOfTwelfths() {
        for (int w = 1; w <= 12; w++) {
            // won: 10 by 1; lost: 2 by w
            MustDefendHim x = alike(4, "n=0?10;b?" + w + ";1");
            Check.bytes(x, 0, 0, 1, -1, 2, 3, 1);
            int likeliest = 2 * w >= 10 ? 0 : 1;
            due("2 by " + w, likeliest, x.roll(0, 1));
            due("both ways", 2, x.roll(0, 0));
            due("sold: lost by 2, or the second by 1", likeliest, x.sold(0));
        }
        // sixteen by 11 and by 12: a product above any int
        MustDefendHim x = alike(2, "n<15?12;11");
        wins(x, 16, 48);
        for (int i = 8; i < 16; i++) {
            x.put(0, 3 * i + 2, -1);
        }
        due("the last one can be lost, too", 2, x.roll(0, 0));
        due("all are won", 255, x.roll(0, 1));
    }

    /** "the first CASE whose end has fewer twelfths than the other one"; "NOT (also: no way is so)" */
    private static void sold() {
        for (int w = 1; w <= 11; w++) {
            MustDefendHim x = alike(2, "" + w);
            Check.bytes(x, 0, 0, 1, 1);
            due("won by " + w, w < 6 ? 0 : NOT, x.sold(0));
            x.put(0, 2, 0);
            due("lost by " + w, w > 6 ? 0 : NOT, x.sold(0));
            x.put(0, 2, -1);
            due("unknown by " + w, NOT, x.sold(0));
        }
        MustDefendHim x = alike(2, "n<2?6;5");
        wins(x, 4, 12);
        due("the first of two", 2, x.sold(0));
        x.put(0, 11, 2);
        due("no way is so: none, though the third would be", NOT, x.sold(0));
    }
}
