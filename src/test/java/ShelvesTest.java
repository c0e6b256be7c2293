/** Promises 35 to 39: what the shelves hold. */
public final class ShelvesTest {
    private static final Check check = new Check("ShelvesTest");
    private static final long NONE = Long.MIN_VALUE;

    private static void due(String call, long want, long got) {
        check.due(call, want, got);
    }

    public static void main(String[] args) {
        keep();
        row();
        putAndElement();
        shift();
        shiftRefusals();
        check.end();
    }

    private static void keep() {
        MustDefendHim x = new MustDefendHim();
        due("no body", -1, x.keep(0, 0));
        due("nothing", 1, x.keep(0, -1));
        x.body(3);
        due("a body", 1, x.keep(5, 0));
        due("taken", 3, x.taken(5, 0));
        due("no body", -1, x.keep(5, 1));
        due("no body", -1, x.keep(5, -2));
        due("no shelf", -1, x.keep(6, 0));
        due("no shelf", -1, x.keep(-1, -1));
        due("it stays", 3, x.taken(5, 0));
        x.row(5, 0, 1);
        due("a row instead", -12, x.taken(5, 0));
        due("a body instead", 1, x.keep(5, 0));
        due("no row any more", -12, x.put(5, 0, 1));
        x.keep(5, -1);
        due("nothing any more", -11, x.put(5, 0, 1));
    }

    private static void row() {
        MustDefendHim x = new MustDefendHim();
        due("no shelf", -1, x.row(6, 0, 1));
        due("no shelf", -1, x.row(-1, 0, -1));
        due("sort", -1, x.row(0, 5, 1));
        due("sort ahead of size", -1, x.row(0, -1, -1));
        due("size", -14, x.row(0, 0, -1));
        due("size", -14, x.row(0, 4, Integer.MIN_VALUE));
        due("above 60", -1, x.row(0, 0, 61));
        due("nothing came", -11, x.put(0, 0, 1));
        for (int sort = 0; sort <= 4; sort++) {
            due("sixty", 1, x.row(0, sort, 60));
            due("at first", 0, x.element(0, 59));
            x.put(0, 59, 1);
            due("put", 1, x.element(0, 59));
        }
        due("none", 1, x.row(0, 0, 0));
        due("no place", -13, x.put(0, 0, 1));
        for (int i = 0; i < 60; i++) {
            x.row(0, 3, 60);
            x.put(0, i, 5);
            x.row(0, 3, 60);
            due("0 at first, whatever was there", 0, x.element(0, i));
        }
        x.put(0, 3, 8);
        due("refused", -14, x.row(0, 0, -1));
        due("it stays", 8, x.element(0, 3));
    }

    private static void putAndElement() {
        MustDefendHim x = new MustDefendHim();
        long v = 0x123456789ABCDEF0L;
        long[] want = {(byte) 0xF0, (short) 0xDEF0, 0x9ABCDEF0, v, 1};
        for (int sort = 0; sort <= 4; sort++) {
            x.row(sort, sort, 2);
            due("put", 1, x.put(sort, 1, v));
            due("lowest bits", want[sort], x.element(sort, 1));
            due("the other one", 0, x.element(sort, 0));
            x.put(sort, 1, 256);
            due("256", sort == 0 ? 0 : sort == 4 ? 1 : 256, x.element(sort, 1));
            x.put(sort, 1, -1);
            due("-1", sort == 4 ? 1 : -1, x.element(sort, 1));
            x.put(sort, 1, 0);
            due("0", 0, x.element(sort, 1));
            due("place", -13, x.put(sort, 2, 1));
            due("place", -13, x.put(sort, -1, 1));
            due("place", NONE, x.element(sort, 2));
            due("place", NONE, x.element(sort, -1));
        }
        due("no shelf", -1, x.put(6, 0, 1));
        due("no shelf", -1, x.put(-1, 0, 1));
        due("no shelf", NONE, x.element(6, 0));
        due("no shelf", NONE, x.element(-1, 0));
        due("nothing", -11, x.put(5, 0, 1));
        due("nothing", NONE, x.element(5, 0));
        x.body(0);
        x.keep(5, 0);
        due("a body", -12, x.put(5, 99, 1));
        due("a body", NONE, x.element(5, 0));
    }

    private static void has(MustDefendHim x, int shelf, int... values) {
        for (int i = 0; i < values.length; i++) {
            due("element " + i, values[i], x.element(shelf, i));
        }
    }

    private static void shift() {
        MustDefendHim x = new MustDefendHim();
        Check.bytes(x, 0, 1, 2, 3, 4, 5);
        due("upward", 4, x.shift(0, 0, 0, 1, 4));
        has(x, 0, 1, 1, 2, 3, 4);
        due("downward", 4, x.shift(0, 1, 0, 0, 4));
        has(x, 0, 1, 2, 3, 4, 4);
        Check.bytes(x, 1, 9, 9, 9);
        due("to another", 2, x.shift(0, 2, 1, 1, 2));
        has(x, 1, 9, 3, 4);
        has(x, 0, 1, 2, 3, 4, 4);
        due("none", 0, x.shift(0, 5, 1, 3, 0));
        due("all", 3, x.shift(1, 0, 0, 0, 3));
        has(x, 0, 9, 3, 4, 4, 4);
    }

    private static void shiftRefusals() {
        MustDefendHim x = new MustDefendHim();
        Check.bytes(x, 0, 1, 2, 3);
        x.row(1, 0, 5);
        x.row(2, 2, 5);
        x.body(0);
        x.keep(3, 0);
        due("no shelf", -1, x.shift(6, 0, 0, 0, 0));
        due("no shelf", -1, x.shift(4, 0, -1, 0, 0));
        due("nothing from", -11, x.shift(4, 0, 0, 0, 0));
        due("nothing to", -11, x.shift(0, 0, 4, 0, 0));
        due("nothing ahead of another kind", -11, x.shift(3, 0, 4, 0, 0));
        due("unlike sorts", -12, x.shift(0, 0, 2, 0, 0));
        due("unlike sorts ahead of places", -12, x.shift(0, 9, 2, 9, 9));
        due("a body from", -12, x.shift(3, 0, 0, 0, 0));
        due("a body to", -12, x.shift(0, 0, 3, 0, 0));
        due("two bodies", -12, x.shift(3, 0, 3, 0, 0));
        int[][] places = {{-1, 0, 1}, {0, -1, 1}, {1, 0, 3}, {0, 3, 3}, {4, 0, 0}, {0, 6, 0},
            {0, 0, -1}, {1, 1, Integer.MAX_VALUE}, {Integer.MAX_VALUE, 0, 1},
            {0, Integer.MAX_VALUE, 1}, {0, 0, Integer.MIN_VALUE}};
        for (int[] p : places) {
            due("places " + p[0] + " " + p[1] + " " + p[2], -13, x.shift(0, p[0], 1, p[1], p[2]));
        }
        has(x, 0, 1, 2, 3);
        has(x, 1, 0, 0, 0, 0, 0);
    }
}
