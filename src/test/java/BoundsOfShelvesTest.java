/**
 * The bounds of promises 35 to 39: shelves 0 .. 5, sorts 0 .. 4, 0 .. 60 elements, places, what is
 * put in at the ends of each sort, and every part of a row that can be shifted or can't.
 */
public final class BoundsOfShelvesTest {
    private static final Check check = new Check("BoundsOfShelvesTest");
    private static final int BAD = MustDefendHim.BAD;
    private static final long NONE = Long.MIN_VALUE;

    private static void due(String call, long want, long got) {
        check.due(call, want, got);
    }

    public static void main(String[] args) {
        rows();
        zeroAtFirst();
        places();
        lowestBits();
        nothingOrABody();
        shelvesStandApart();
        shiftShelves();
        shiftKinds();
        shiftPlaces();
        shiftWithinOne();
        shiftOfEachSort();
        check.end();
    }

    /** "A SHELF holds a ROW: 1. BAD (sort, n above 60); -14": "of 0 .. 60 elements" */
    private static void rows() {
        check.range("shelf", 0, 5, BAD, v -> new MustDefendHim().row(v, 0, 1));
        check.range("sort", 0, 4, BAD, v -> new MustDefendHim().row(0, v, 1));
        for (int sort = 0; sort <= 4; sort++) {
            for (int n : new int[] {Integer.MIN_VALUE, -2, -1, 0, 1, 59, 60, 61, Integer.MAX_VALUE}) {
                MustDefendHim x = new MustDefendHim();
                due("n " + n, n < 0 ? -14 : n > 60 ? BAD : 1, x.row(0, sort, n));
                boolean is = n >= 0 && n <= 60;
                due("the last place of " + n, !is ? -11 : n == 0 ? -13 : 1, x.put(0, n - 1, 1));
                due("behind it", !is ? -11 : -13, x.put(0, n, 1));
            }
        }
        for (int sort : new int[] {Integer.MIN_VALUE, -1, 5, Integer.MAX_VALUE}) {
            MustDefendHim x = new MustDefendHim();
            for (int n : new int[] {-1, 0, 60, 61}) {
                due("no sort", BAD, x.row(0, sort, n));
            }
        }
        for (int shelf : new int[] {-1, 6}) {
            MustDefendHim x = new MustDefendHim();
            for (int n : new int[] {-1, 0, 60, 61}) {
                due("no shelf", BAD, x.row(shelf, 0, n));
            }
        }
    }

    /** "0 at first (false)", whatever the shelf held */
    private static void zeroAtFirst() {
        MustDefendHim x = new MustDefendHim();
        for (int sort = 0; sort <= 4; sort++) {
            x.row(0, sort, 60);
            for (int i : new int[] {0, 1, 30, 58, 59}) {
                due("at first", 0, x.element(0, i));
                x.put(0, i, -1);
            }
            x.row(0, sort, 59);
            due("at first again", 0, x.element(0, 0));
            due("at first again", 0, x.element(0, 58));
            due("no more", NONE, x.element(0, 59));
            x.row(0, sort, 60);
            due("what was there once is gone", 0, x.element(0, 59));
            x.put(0, 59, 1);
            x.keep(0, -1);
            x.row(0, sort, 60);
            due("at first behind nothing", 0, x.element(0, 59));
        }
    }

    /** "-13 a place that is not there" */
    private static void places() {
        for (int n : new int[] {0, 1, 2, 59, 60}) {
            MustDefendHim x = new MustDefendHim();
            x.row(0, 2, n);
            for (int i : new int[] {Integer.MIN_VALUE, -1, 0, 1, 2, 58, 59, 60, 61, Integer.MAX_VALUE}) {
                boolean is = i >= 0 && i < n;
                due("put at " + i + " of " + n, is ? 1 : -13, x.put(0, i, 1000 + i));
                due("element " + i + " of " + n, is ? 1000 + i : NONE, x.element(0, i));
            }
        }
    }

    private static long held(int sort, long v) {
        switch (sort) {
            case 0: return (byte) v;
            case 1: return (short) v;
            case 2: return (int) v;
            case 3: return v;
            default: return v != 0 ? 1 : 0;
        }
    }

    /** "what is put in keeps its lowest bits (a boolean: whether it is not 0; 1 or 0)" */
    private static void lowestBits() {
        for (int sort = 0; sort <= 4; sort++) {
            MustDefendHim x = new MustDefendHim();
            x.row(0, sort, 1);
            for (int bits : new int[] {1, 7, 8, 15, 16, 31, 32, 62}) {
                long edge = 1L << bits;
                for (long v : new long[] {edge - 1, edge, edge + 1, -edge - 1, -edge, -edge + 1}) {
                    due("put " + v, 1, x.put(0, 0, v));
                    due("sort " + sort + " of " + v, held(sort, v), x.element(0, 0));
                }
            }
        }
        long[][] told = {
            {0, 127, 127}, {0, 128, -128}, {0, 255, -1}, {0, 256, 0}, {0, -128, -128}, {0, -129, 127},
            {1, 32767, 32767}, {1, 32768, -32768}, {1, 65536, 0}, {1, -32769, 32767},
            {2, Integer.MAX_VALUE, Integer.MAX_VALUE}, {2, 1L << 31, Integer.MIN_VALUE}, {2, 1L << 32, 0},
            {3, Long.MAX_VALUE, Long.MAX_VALUE}, {3, Long.MIN_VALUE, Long.MIN_VALUE}, {3, -1, -1},
            {4, 0, 0}, {4, 1, 1}, {4, 2, 1}, {4, -1, 1}, {4, 256, 1}, {4, 1L << 32, 1}, {4, Long.MIN_VALUE, 1}};
        MustDefendHim x = new MustDefendHim();
        for (long[] t : told) {
            x.row(0, (int) t[0], 1);
            x.put(0, 0, 1);
            due("put " + t[1], 1, x.put(0, 0, t[1]));
            due("sort " + t[0] + " of " + t[1], t[2], x.element(0, 0));
        }
    }

    /** "BAD, -11, -12, -13"; "Long.MIN_VALUE: BAD, -11 to -13" */
    private static void nothingOrABody() {
        MustDefendHim x = new MustDefendHim();
        x.body(0);
        for (int shelf = 0; shelf <= 5; shelf++) {
            due("nothing", -11, x.put(shelf, 0, 1));
            due("nothing", NONE, x.element(shelf, 0));
            x.keep(shelf, 0);
            due("a body", -12, x.put(shelf, 0, 1));
            due("a body", NONE, x.element(shelf, 0));
            x.row(shelf, 0, 1);
            due("a row", 1, x.put(shelf, 0, 1));
            x.keep(shelf, -1);
            due("nothing again", -11, x.put(shelf, 0, 1));
        }
        for (int shelf : new int[] {Integer.MIN_VALUE, -1, 6, Integer.MAX_VALUE}) {
            due("no shelf", BAD, x.put(shelf, 0, 1));
            due("no shelf", NONE, x.element(shelf, 0));
        }
    }

    private static void shelvesStandApart() {
        MustDefendHim x = new MustDefendHim();
        for (int shelf = 0; shelf <= 5; shelf++) {
            x.row(shelf, 2, 10 + shelf);
            x.put(shelf, 9 + shelf, 100 + shelf);
        }
        x.keep(2, -1);
        for (int shelf = 0; shelf <= 5; shelf++) {
            due("its own", shelf == 2 ? NONE : 100 + shelf, x.element(shelf, 9 + shelf));
            due("its own end", NONE, x.element(shelf, 10 + shelf));
        }
    }

    /** "BAD, -11 (either)" */
    private static void shiftShelves() {
        MustDefendHim x = new MustDefendHim();
        for (int shelf = 0; shelf <= 5; shelf++) {
            x.row(shelf, 0, 1);
        }
        check.range("shelf", 0, 5, BAD, v -> x.shift(v, 0, 0, 0, 1));
        check.range("other", 0, 5, BAD, v -> x.shift(0, 0, v, 0, 1));
        x.keep(1, -1);
        x.keep(4, -1);
        due("from nothing", -11, x.shift(1, 0, 0, 0, 1));
        due("to nothing", -11, x.shift(0, 0, 1, 0, 1));
        due("from nothing to nothing", -11, x.shift(1, 0, 4, 0, 0));
        due("bad, though nothing", BAD, x.shift(1, 0, 6, 0, 1));
        due("bad, though nothing", BAD, x.shift(-1, 0, 1, 0, 1));
    }

    /** "-12 (no ROWS, or of unlike sorts)" */
    private static void shiftKinds() {
        MustDefendHim x = new MustDefendHim();
        x.body(0);
        for (int from = -1; from <= 4; from++) {
            for (int to = -1; to <= 4; to++) {
                // -1: a body
                if (from < 0) {
                    x.keep(0, 0);
                } else {
                    x.row(0, from, 2);
                }
                if (to < 0) {
                    x.keep(1, 0);
                } else {
                    x.row(1, to, 2);
                }
                boolean like = from >= 0 && from == to;
                due(from + " to " + to, like ? 2 : -12, x.shift(0, 0, 1, 0, 2));
                due(from + " to " + to + ", none", like ? 0 : -12, x.shift(0, 0, 1, 0, 0));
                due(from + " to " + to + ", no place", like ? -13 : -12, x.shift(0, 0, 1, 0, 3));
            }
        }
    }

    private static long[] filled(MustDefendHim x, int shelf, int n, int first) {
        long[] row = new long[n];
        x.row(shelf, 2, n);
        for (int i = 0; i < n; i++) {
            row[i] = first + i;
            x.put(shelf, i, row[i]);
        }
        return row;
    }

    private static void holds(String what, MustDefendHim x, int shelf, long[] row) {
        boolean same = x.element(shelf, row.length) == NONE;
        for (int i = 0; i < row.length; i++) {
            same &= x.element(shelf, i) == row[i];
        }
        check.holds(what, same);
    }

    /** Every part of rows of 3 and 4, a place below and behind, and far off: as the host copies. */
    private static void shiftPlaces() {
        int[] some = {Integer.MIN_VALUE, -2, -1, 0, 1, 2, 3, 4, 5, Integer.MAX_VALUE};
        for (int i : some) {
            for (int j : some) {
                for (int n : some) {
                    MustDefendHim x = new MustDefendHim();
                    long[] from = filled(x, 0, 3, 10);
                    long[] to = filled(x, 1, 4, 20);
                    int want = n;
                    try {
                        System.arraycopy(from, i, to, j, n);
                    } catch (IndexOutOfBoundsException e) {
                        want = -13;
                    }
                    String call = i + " to " + j + ", " + n;
                    due(call, want, x.shift(0, i, 1, j, n));
                    holds("from stays: " + call, x, 0, from);
                    holds("to is: " + call, x, 1, to);
                }
            }
        }
        MustDefendHim x = new MustDefendHim();
        long[] from = filled(x, 0, 60, 100);
        filled(x, 1, 60, 200);
        due("sixty", 60, x.shift(0, 0, 1, 0, 60));
        holds("all sixty", x, 1, from);
        due("sixty-one", -13, x.shift(0, 0, 1, 0, 61));
    }

    /** "or the same .. as they all were before" */
    private static void shiftWithinOne() {
        for (int i = -1; i <= 6; i++) {
            for (int j = -1; j <= 6; j++) {
                for (int n = -1; n <= 6; n++) {
                    MustDefendHim x = new MustDefendHim();
                    long[] row = filled(x, 0, 5, 10);
                    boolean is = i >= 0 && j >= 0 && n >= 0 && i + n <= 5 && j + n <= 5;
                    long[] before = row.clone();
                    for (int k = 0; is && k < n; k++) {
                        row[j + k] = before[i + k];
                    }
                    String call = i + " to " + j + ", " + n + " within one";
                    due(call, is ? n : -13, x.shift(0, i, 0, j, n));
                    holds(call, x, 0, row);
                }
            }
        }
    }

    private static void shiftOfEachSort() {
        for (int sort = 0; sort <= 4; sort++) {
            MustDefendHim x = new MustDefendHim();
            x.row(0, sort, 3);
            x.row(1, sort, 2);
            x.put(0, 0, Long.MIN_VALUE + 1);
            x.put(0, 1, Long.MAX_VALUE - 1);
            due("sort " + sort, 2, x.shift(0, 0, 1, 0, 2));
            due("the first", held(sort, Long.MIN_VALUE + 1), x.element(1, 0));
            due("the second", held(sort, Long.MAX_VALUE - 1), x.element(1, 1));
        }
    }
}
