/**
 * The bounds of promises 9 to 15, 18, 22 and 23: courses, whom to charge, how few cases, when to
 * keep still, what a friend is worth, years by draws.
 */
public final class BoundsOfThoughtTest {
    private static final Check check = new Check("BoundsOfThoughtTest");
    private static final int BAD = MustDefendHim.BAD, NOT = MustDefendHim.NOT, STATE = MustDefendHim.STATE,
            VOID = MustDefendHim.VOID;

    private static void due(String call, long want, long got) {
        check.due(call, want, got);
    }

    public static void main(String[] args) {
        courseNumbers();
        twentyOfACourse();
        letOfACourse();
        freeInACourse();
        millionths();
        fees();
        best();
        beside();
        pairsOfSeven();
        tillBound();
        round();
        sure();
        sureByAnotherOne();
        pairsOfFour();
        howManyPeople();
        quiet();
        friend();
        yearsAndCases();
        lessThanTwo();
        draws();
        check.end();
    }

    private static MustDefendHim alike(int people) {
        MustDefendHim x = new MustDefendHim();
        for (int i = 0; i < people; i++) {
            x.person(0, 0);
        }
        return x;
    }

    private static MustDefendHim alike(int people, String law) {
        MustDefendHim x = alike(people);
        Check.law(x, law);
        return x;
    }

    /** "how many CASES (one -1), to whom one is BOUND then"; "VOID: BAD, or no ROW of bytes" */
    private static void courseNumbers() {
        MustDefendHim x = alike(3);
        for (int shelf = 0; shelf <= 5; shelf++) {
            due("nothing", VOID, x.course(shelf, -1));
            due("nothing", VOID, x.ends(shelf, 0, 0));
            x.row(shelf, 0, 0);
        }
        check.range("shelf", 0, 5, VOID, v -> x.course(v, -1));
        check.range("one", -1, 2, VOID, v -> x.course(0, v));
        check.range("shelf of ends", 0, 5, VOID, v -> x.ends(v, 0, 0));
        check.range("one of ends", 0, 2, VOID, v -> x.ends(0, v, 0));
        check.range("one of fees", 0, 2, VOID, v -> x.ends(0, v, 1));
        check.range("what of ends", 0, 1, VOID, v -> x.ends(0, 0, v));
        for (int sort = 1; sort <= 4; sort++) {
            x.row(1, sort, 3);
            due("sort " + sort, VOID, x.course(1, -1));
            due("sort " + sort, VOID, x.ends(1, 0, 0));
        }
    }

    /** "20 CASES at most": a row has no room for more; one, two bytes that lack are no case */
    private static void twentyOfACourse() {
        MustDefendHim x = alike(2, "6");
        for (int size : new int[] {0, 1, 2, 3, 4, 5, 6, 56, 57, 58, 59, 60}) {
            x.row(0, 0, size);
            for (int i = 1; i < size; i += 3) {
                x.put(0, i, 1);
                x.put(0, i + 1, 1);
            }
            due("size " + size, size / 3, x.course(0, -1));
        }
        // the twentieth counts: it binds
        x.put(0, 59, 0);
        due("twenty", 20, x.course(0, -1));
        due("the twentieth", 1, x.course(0, 0));
    }

    /** "as far as all are let (PEOPLE that are there, unlike, .. the end 0 or 1)" */
    private static void letOfACourse() {
        for (int a : new int[] {-128, -1, 0, 1, 2, 3, 127}) {
            for (int b : new int[] {-128, -1, 0, 1, 2, 3, 127}) {
                for (int end : new int[] {-128, -2, -1, 0, 1, 2, 127}) {
                    // by ends 1 nothing is bound, so what is wrong in the second is wrong by itself
                    MustDefendHim x = alike(3);
                    Check.bytes(x, 0, 0, 1, 1, a, b, end, 0, 1, 1);
                    boolean there = a >= 0 && a <= 2 && b >= 0 && b <= 2 && a != b && (end == 0 || end == 1);
                    boolean binds = there && end == 0 && a == 0;
                    due(a + " " + b + " " + end, !there ? 1 : binds ? 2 : 3, x.course(0, -1));
                }
            }
        }
    }

    /** "a FREE": also not if it is bound to itself; who is charged may be bound */
    private static void freeInACourse() {
        MustDefendHim x = alike(3);
        Check.bytes(x, 0, 0, 1, 0, 0, 2, 1);
        due("bound to 1", 1, x.course(0, -1));
        due("bound to 1", 1, x.course(0, 0));
        Check.bytes(x, 0, 0, 1, 0, 2, 1, 1, 0, 2, 1);
        due("0 spoke for 1 and lost", 2, x.course(0, -1));
        due("bound to itself", 0, x.course(0, 0));
        Check.bytes(x, 0, 0, 1, 0, 2, 0, 1, 0, 2, 1);
        due("charged while bound, and free then", 3, x.course(0, -1));
        x.hold(1, 0);
        Check.bytes(x, 0, 0, 1, 1);
        due("not free now", 0, x.course(0, -1));
        due("bound as now", 1, x.course(0, 0));
        due("likely", 1000000, x.ends(0, 0, 0));
        due("no fees", 0, x.ends(0, 0, 1));
    }

    /** "1000000 times each end's twelfths, one after the other, cut" */
    private static void millionths() {
        for (int w = 0; w <= 12; w++) {
            MustDefendHim x = alike(2, "" + w);
            Check.bytes(x, 0, 0, 1, 1);
            due("won by " + w, 1000000 * w / 12, x.ends(0, 0, 0));
            x.put(0, 2, 0);
            due("lost by " + w, 1000000 * (12 - w) / 12, x.ends(0, 0, 0));
            x.row(0, 0, 60);
            int left = 1000000;
            for (int i = 0; i < 20; i++) {
                x.put(0, 3 * i + 1, 1);
                x.put(0, 3 * i + 2, 1);
                left = left * w / 12;
            }
            due("twenty by " + w, left, x.ends(0, 1, 0));
        }
        MustDefendHim x = alike(2);
        x.row(0, 0, 0);
        due("no case", 1000000, x.ends(0, 0, 0));
    }

    /** "the loser PAYS FEE (b, if a wins)"; "the other one of a, b has it" */
    private static void fees() {
        MustDefendHim x = alike(3);
        x.mend(0, 3, 99);
        x.mend(1, 3, 0);
        x.row(0, 0, 60);
        for (int i = 0; i < 20; i++) {
            x.put(0, 3 * i, 1);
            x.put(0, 3 * i + 2, 1);
        }
        due("0 pays twenty times", -1980, x.ends(0, 0, 1));
        due("1 has it", 1980, x.ends(0, 1, 1));
        due("2 has none of it", 0, x.ends(0, 2, 1));
        Check.bytes(x, 0, 1, 0, 0);
        due("1 pays nothing", 0, x.ends(0, 1, 1));
        due("0 has nothing", 0, x.ends(0, 0, 1));
        Check.bytes(x, 0, 0, 1, 0);
        due("a pays", -99, x.ends(0, 0, 1));
        due("b has it", 99, x.ends(0, 1, 1));
        Check.bytes(x, 0, 0, 1, 0, 2, 1, 1);
        due("who spoke and lost pays nothing more", -99, x.ends(0, 0, 1));
        due("1 pays its own fee, 0", 99, x.ends(0, 1, 1));
        due("2 has that", 0, x.ends(0, 2, 1));
    }

    /** "of like ones the least"; "NOT: it is not FREE, or nobody else is there" */
    private static void best() {
        due("nobody", BAD, alike(0).best(0, 0));
        due("alone, to win", NOT, alike(1).best(0, 0));
        due("alone, to lose", NOT, alike(1).best(0, 1));
        due("alone, another", BAD, alike(1).best(1, 0));
        for (int what = 0; what <= 1; what++) {
            due("of two, the other one", 1, alike(2).best(0, what));
            due("of two, the other one", 0, alike(2).best(1, what));
            due("of three", 1, alike(3).best(0, what));
        }
        for (int one = 0; one < 7; one++) {
            due("of like ones, to win", one == 0 ? 1 : 0, alike(7).best(one, 0));
            due("of like ones, to lose", one == 0 ? 1 : 0, alike(7).best(one, 1));
        }
        MustDefendHim x = alike(7);
        x.mend(6, 1, 1);
        due("the last is hardest", 6, x.best(0, 1));
        due("the first others are easiest", 1, x.best(0, 0));
        x.mend(6, 1, 0);
        for (int one = 0; one < 6; one++) {
            x.mend(one, 1, 1);
        }
        due("the last is easiest", 6, x.best(0, 0));
        due("to lose: 1", 1, x.best(0, 1));
        check.range("one", 0, 6, BAD, v -> x.best(v, 0));
        check.range("what", 0, 1, BAD, v -> x.best(0, v));
        x.hold(1, 0);
        due("bound to another", NOT, x.best(0, 0));
        x.hold(21, 1);
        due("bound to itself", NOT, x.best(0, 1));
        x.release(0);
        due("free again", 6, x.best(0, 0));
        MustDefendHim held = Check.court(9, 0, 0, 1, 0, 2);
        due("both are held within 12: the least", 1, held.best(0, 0));
    }

    /** "a fraction of twelve in lowest terms (not let: 0)" */
    private static void beside() {
        for (int w = 0; w <= 12; w++) {
            MustDefendHim x = alike(2, "" + w);
            long above = x.beside(1, 0);
            long below = x.beside(1, 1);
            due("the fraction by " + w, 12 - w, above * 12 / below);
            due("nothing is cut by " + w, 0, above * 12 % below);
            boolean lowest = true;
            for (int d = 2; d <= 12; d++) {
                lowest &= above % d != 0 || below % d != 0;
            }
            check.holds("in lowest terms by " + w, lowest);
        }
        MustDefendHim x = alike(3, "0");
        check.range("part", 0, 1, Long.MIN_VALUE, v -> x.beside(1, v));
        due("sure: 1", 1, x.beside(1, 0));
        due("of 1", 1, x.beside(1, 1));
        x.hold(1, 0);
        due("not let", 0, x.beside(2, 0));
        due("0 of 1", 1, x.beside(2, 1));
        due("bound to b already: not let", 0, x.beside(1, 0));
        due("the other way it is let", 1, x.beside(10, 0));
    }

    /** "ab: 10 times the one and the other": each pair of seven, and each number that is no pair */
    private static void pairsOfSeven() {
        // only of whom a hates does the speaker count, so a wrong pair has another answer
        for (int a = 0; a < 7; a++) {
            for (int b = 0; b < 7; b++) {
                MustDefendHim x = alike(7, "h*d+a");
                for (int one = 0; one < 7; one++) {
                    x.mend(one, 0, one);
                }
                x.mend(a, 2, b);
                x.mend(b, 1, 3);
                boolean is = a != b;
                int ab = 10 * a + b;
                due("wins " + ab, is ? a + 3 : BAD, x.wins(ab, 0));
                due("beside " + ab, is ? 9 - a : Long.MIN_VALUE, is ? 12 * x.beside(ab, 0) / x.beside(ab, 1)
                        : x.beside(ab, 0));
                due("friend " + ab, is ? 3 : VOID, x.friend(ab, 0));
            }
        }
        MustDefendHim x = alike(7);
        for (int ab = -12; ab <= 112; ab++) {
            boolean is = ab >= 0 && ab / 10 < 7 && ab % 10 < 7 && ab / 10 != ab % 10;
            due("beside " + ab, is ? 1 : Long.MIN_VALUE, x.beside(ab, 0));
            due("friend " + ab, is ? 0 : VOID, x.friend(ab, 0));
        }
    }

    /** "the fewest CASES .. from now (0 on ..); 8 CASES at most; NOT" */
    private static void tillBound() {
        for (int many = 1; many <= 9; many++) {
            MustDefendHim x = alike(2, "n<" + (many - 1) + "?12;0");
            due("lost at " + many, many <= 8 ? many : NOT, x.tillBound(1));
            due("the other, too", many <= 8 ? many : NOT, x.tillBound(10));
            x.hold(1, 1);
            due("n goes on", many == 1 ? 1 : many - 1, x.tillBound(1));
        }
        MustDefendHim x = alike(3);
        x.hold(12, 0);
        due("bound now", 0, x.tillBound(12));
        Check.law(x, "12");
        due("bound now, whatever the law", 0, x.tillBound(12));
        due("no end without a twelfth: nobody loses", NOT, x.tillBound(1));
        Check.law(x, "11");
        due("one twelfth is enough", 1, x.tillBound(1));
        Check.law(x, "0");
        due("1 must be free first", 2, x.tillBound(10));
        due("2 is free", 1, x.tillBound(20));
    }

    /** "ROUND: the fewest CASES (1 .. 8) behind which all are BOUND just as now" */
    private static void round() {
        for (int many = 1; many <= 9; many++) {
            MustDefendHim x = alike(2, "n=" + (many - 1) + "?12;0");
            due("won at " + many, many <= 8 ? many : NOT, x.round());
        }
        due("a win for sure", 1, alike(2, "12").round());
        due("one twelfth is enough", 1, alike(2, "1").round());
        due("no end without a twelfth", NOT, alike(2, "0").round());
        due("nobody charges", NOT, alike(0).round());
        due("one alone", NOT, alike(1).round());
        MustDefendHim x = alike(2, "0");
        x.hold(1, 0);
        due("0 speaks for itself, then 1 is bound and free again", 2, x.round());
    }

    /** "till it is BOUND to b however they end (.. 6 CASES at most ..)" */
    private static void sure() {
        for (int many = 1; many <= 7; many++) {
            MustDefendHim x = alike(2, "n<" + (many - 1) + "?12;0");
            due("lost at " + many, many <= 6 ? many : NOT, x.sure(1));
            Check.law(x, "n<" + (many - 1) + "?6;0");
            due("lost at " + many + " at the latest", many <= 6 ? many : NOT, x.sure(1));
        }
        due("an end without a twelfth does not come", 1, alike(2, "0").sure(1));
        due("one twelfth is too much", NOT, alike(2, "1").sure(1));
        due("it never loses", NOT, alike(2, "12").sure(1));
        MustDefendHim x = alike(4, "0");
        x.hold(1, 0);
        due("bound to b", STATE, x.sure(1));
        due("bound to another one", STATE, x.sure(2));
        x.hold(21, 1);
        due("bound to itself", STATE, x.sure(1));
        due("another one is free", 1, x.sure(20));
        x.release(0);
        due("free again", 1, x.sure(1));
    }

    /** "at each step the best next charge": one who is surely won against may come ahead of b */
    private static void sureByAnotherOne() {
        for (int first = 10; first <= 12; first++) {
            // 1 is bound: once it is charged and loses, nobody is bound, and 0 wins for ever
            MustDefendHim x = Check.court(0, 5, 0, 5);
            x.hold(10, 0);
            Check.law(x, "b=0?12;n=1&d=0?" + first + ";n=1?6;0");
            due("nobody else is there", NOT, x.sure(1));
            x.person(0, 5);
            due("a third one who is not of that kind", NOT, x.sure(1));
            x.person(0, 0);
            due("the fourth one by " + first, first == 12 ? 2 : NOT, x.sure(1));
            x.mend(2, 1, 0);
            x.mend(3, 1, 5);
            due("the third one by " + first, first == 12 ? 2 : NOT, x.sure(1));
            due("that one itself: 1 stays bound, so the second is lost", 2, x.sure(2));
        }
    }

    /** Each pair of four: 0 to the first and 3 to the last, too */
    private static void pairsOfFour() {
        for (int a = 0; a < 4; a++) {
            for (int b = 0; b < 4; b++) {
                MustDefendHim x = alike(4, "h?0;12");
                for (int one = 0; one < 4; one++) {
                    x.mend(one, 2, one == 3 ? 0 : one + 1);
                }
                int ab = 10 * a + b;
                boolean hated = b == (a + 1) % 4;
                due("till bound to whom he hates: " + ab, a == b ? BAD : hated ? 1 : NOT, x.tillBound(ab));
                due("sure of whom he hates: " + ab, a == b ? BAD : hated ? 1 : NOT, x.sure(ab));
                Check.law(x, "n<2?12;0");
                due("the third case: " + ab, a == b ? BAD : 3, x.tillBound(ab));
                due("sure by the third case: " + ab, a == b ? BAD : 3, x.sure(ab));
            }
        }
        for (int people = 2; people <= 4; people++) {
            due("whoever charges is bound: none comes round", NOT, alike(people, "0").round());
            due("who is charged and loses is free", 1, alike(people, "12").round());
        }
    }

    /** "4 PEOPLE at most, else STATE"; "BAD (alike, too)" */
    private static void howManyPeople() {
        for (int people = 0; people <= 7; people++) {
            MustDefendHim x = alike(people);
            boolean few = people <= 4;
            due("till bound of " + people, people < 2 ? BAD : few ? 1 : STATE, x.tillBound(1));
            due("round of " + people, people < 2 ? NOT : few ? 1 : STATE, x.round());
            due("sure of " + people, people < 2 ? BAD : few ? NOT : STATE, x.sure(1));
            for (int one = 0; one < 10; one++) {
                due("alike", BAD, x.tillBound(11 * one));
                due("alike", BAD, x.sure(11 * one));
                boolean there = one != 0 && one < people;
                due("with " + one, !there ? BAD : few ? 1 : STATE, x.tillBound(one));
                due("of " + one, !there ? BAD : few ? NOT : STATE, x.sure(10 * one));
            }
            due("below 0", BAD, x.tillBound(-1));
            due("below 0", BAD, x.sure(-1));
            due("a hundred", BAD, x.tillBound(100));
            due("a hundred", BAD, x.sure(100));
        }
    }

    /** "its worst (.. nobody else: 12)"; "1: it is not FREE, or its worst and best together are below 12" */
    private static void quiet() {
        due("nobody", BAD, alike(0).quiet(0, 0));
        due("nobody else", 12, alike(1, "3").quiet(0, 0));
        due("nobody else", 0, alike(1, "3").quiet(0, 1));
        due("one else", 3, alike(2, "3").quiet(0, 0));
        due("one else", 1, alike(2, "3").quiet(0, 1));
        due("one else, by 6", 0, alike(2, "6").quiet(0, 1));
        for (int worst = 0; worst <= 12; worst++) {
            for (int finest = worst; finest <= 12; finest++) {
                MustDefendHim x = Check.court(0, 0, 0, 1, 0, 2, 0, 1);
                Check.law(x, "d=2?" + worst + ";d=1?" + finest + ";9");
                due("worst " + worst, worst, x.quiet(0, 0));
                due(worst + " and " + finest, worst + finest < 12 ? 1 : 0, x.quiet(0, 1));
            }
        }
        MustDefendHim x = alike(7, "12");
        check.range("one", 0, 6, BAD, v -> x.quiet(v, 0));
        check.range("what", 0, 1, BAD, v -> x.quiet(0, v));
        due("free", 0, x.quiet(0, 1));
        x.hold(1, 0);
        due("bound to another", 1, x.quiet(0, 1));
        due("its worst", 12, x.quiet(0, 0));
        x.hold(21, 1);
        due("bound to itself", 1, x.quiet(0, 1));
        x.release(0);
        due("free again", 0, x.quiet(0, 1));
    }

    /** "one of KIND k (0 .. 9)": "by how many of twelve less a wins then (below 0: more)" */
    private static void friend() {
        check.range("k", 0, 9, VOID, v -> alike(2).friend(1, v));
        for (int kind = 0; kind <= 9; kind++) {
            for (int k = 0; k <= 9; k++) {
                MustDefendHim x = Check.court(2, 0, 0, kind);
                // 8 less each one's kind, held at 0
                due(kind + " and " + k, Math.max(0, 8 - kind) - Math.max(0, 8 - k), x.friend(1, k));
            }
        }
        MustDefendHim x = alike(3, "d=0?12;0");
        due("all twelve less", 12, x.friend(1, 1));
        x.mend(1, 1, 1);
        due("all twelve more", -12, x.friend(1, 0));
        x.hold(21, 0);
        due("instead of 2, who would", 12, x.friend(1, 1));
        due("alike", VOID, x.friend(11, 0));
        due("nobody", VOID, x.friend(3, 0));
        due("nobody", VOID, x.friend(30, 0));
    }

    /** "n years (1 .. 30) of m CASES (1 .. 60)"; "nm: 100 n and m" */
    private static void yearsAndCases() {
        MustDefendHim x = alike(2, "12");
        for (int n = 0; n <= 31; n++) {
            for (int m : new int[] {0, 1, 2, 59, 60, 61, 99}) {
                boolean is = n >= 1 && n <= 30 && m >= 1 && m <= 60;
                due(n + " years of " + m, is ? n * m : BAD, x.drawn(3, 100 * n + m, 0, 0));
            }
        }
        for (int nm : new int[] {Integer.MIN_VALUE, -3060, -101, -100, -1, 10101, 100101, Integer.MAX_VALUE}) {
            due("nm " + nm, BAD, x.drawn(3, nm, 0, 0));
        }
        check.range("what", 0, 2, BAD, v -> x.drawn(3, 101, v, 0));
        check.range("one", 0, 1, BAD, v -> x.drawn(3, 101, 1, v));
        for (int one : new int[] {Integer.MIN_VALUE, -1, 2, 7, Integer.MAX_VALUE}) {
            due("one is not asked for", 1, x.drawn(3, 101, 0, one));
            due("one is not asked for", 0, x.drawn(3, 101, 2, one));
        }
    }

    /** "(less than two PEOPLE: all 0)" */
    private static void lessThanTwo() {
        for (int what = 0; what <= 2; what++) {
            due("nobody", what == 1 ? BAD : 0, alike(0).drawn(3, 3060, what, 0));
            due("one", 0, alike(1).drawn(3, 3060, what, 0));
            due("one, and bad", BAD, alike(1).drawn(3, 3061, what, 0));
        }
        due("one, and another asked for", BAD, alike(1).drawn(3, 3060, 1, 1));
        due("two", 1800, alike(2, "12").drawn(3, 3060, 0, 0));
    }

    /** The draws by the document's words, for seeds at the ends of the ints and each number of people. */
    private static void draws() {
        for (int people = 2; people <= 7; people++) {
            for (int seed : new int[] {Integer.MIN_VALUE, -1, 0, 1, 12345, Integer.MAX_VALUE}) {
                drawsOf(people, seed);
            }
        }
    }

    private static void drawsOf(int people, int seed) {
        int[][] charged = new int[people][people];
        int[] below = new int[13];
        int z = seed;
        for (int i = 0; i < 30; i++) {
            z = z * 1103515245 + 12345;
            int a = (z >>> 4) % people;
            int b = (z >>> 12) % (people - 1);
            charged[a][b < a ? b : b + 1]++;
            for (int w = (z >>> 20) % 12 + 1; w <= 12; w++) {
                below[w]++;
            }
        }
        MustDefendHim x = alike(people, "h*12");
        for (int a = 0; a < people; a++) {
            for (int b = 0; b < people; b++) {
                x.mend(a, 2, b);
                due(a + " against " + b, a == b ? 0 : charged[a][b], x.drawn(seed, 3001, 1, a));
            }
            x.mend(a, 2, a);
        }
        for (int w = 0; w <= 12; w++) {
            Check.law(x, "" + w);
            due("each year one case", 30, x.drawn(seed, 3001, 0, 0));
            due("lost ones are bound", 30 - below[w], x.drawn(seed, 3001, 2, 0));
        }
    }
}
