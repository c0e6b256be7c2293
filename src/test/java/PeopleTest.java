/** Promises 1 to 5, 30 and 31: a new object, people, what is mended, undone and done again. */
public final class PeopleTest {
    private static final Check check = new Check("PeopleTest");

    private static void due(String call, long want, long got) {
        check.due(call, want, got);
    }

    public static void main(String[] args) {
        newObject();
        person();
        people();
        mendAndOf();
        changes();
        manyChanges();
        check.end();
    }

    private static void newObject() {
        MustDefendHim x = new MustDefendHim();
        for (int what = 0; what <= 5; what++) {
            due("count " + what, 0, x.count(what));
        }
        for (int what = 0; what <= 4; what++) {
            due("led " + what, 0, x.led(what));
        }
        for (int shelf = 0; shelf <= 5; shelf++) {
            due("taken " + shelf, -11, x.taken(shelf, 0));
        }
        due("back without an image", MustDefendHim.STATE, x.back());
    }

    private static void person() {
        MustDefendHim x = new MustDefendHim();
        due("sharp below", -1, x.person(-1, 5));
        due("sharp above", -1, x.person(10, 5));
        due("kind below", -1, x.person(5, -1));
        due("kind above", -1, x.person(5, 10));
        for (int i = 0; i < 7; i++) {
            due("person " + i, i, x.person(i, 9 - i));
            due("sharp", i, x.of(i, 0));
            due("kind", 9 - i, x.of(i, 1));
            due("hates itself", i, x.of(i, 2));
            due("fee", 5, x.of(i, 3));
            due("free", -1, x.of(i, 4));
        }
        due("an eighth", -3, x.person(0, 0));
        due("an eighth that is bad", -1, x.person(0, 10));
        due("seven", 7, x.count(0));
    }

    private static void people() {
        MustDefendHim x = new MustDefendHim();
        due("a missing row", 0, x.people(0, 0, 7));
        due("a missing row, far on", 0, x.people(0, Integer.MAX_VALUE, 7));
        due("a missing row, below 0", 0, x.people(0, -1, 1));
        due("a missing row, n 0", -1, x.people(0, -1, 0));
        due("a missing row, n 8", -1, x.people(0, -1, 8));
        Check.bytes(x, 0, 1, 2, 3, 4, 5, 6, 7, 8);
        due("ends within a three", 2, x.people(0, 0, 7));
        due("sharp 1", 4, x.of(1, 0));
        due("kind 1", 5, x.of(1, 1));
        due("hates 1", 6, x.of(1, 2));
        due("fee 1", 5, x.of(1, 3));
        due("only n", 1, x.people(0, 1, 1));
        due("only n came", 3, x.count(0));
        due("sharp 2", 2, x.of(2, 0));
        due("the row ends", 0, x.people(0, 8, 1));
        due("far on", 0, x.people(0, Integer.MAX_VALUE, 1));
        for (int place : new int[] {-1, -2, -3, -6, Integer.MIN_VALUE}) {
            due("nothing is read from below 0 on", 0, x.people(0, place, 7));
        }
        due("nobody came", 3, x.count(0));
        due("no shelf, below 0", -1, x.people(6, -1, 1));
        due("no shelf", -1, x.people(-1, 0, 1));
        due("no shelf", -1, x.people(6, 0, 1));
        due("n 0", -1, x.people(0, 0, 0));
        due("n 8", -1, x.people(0, 0, 8));
        Check.bytes(x, 1, 9, 9, 6, 10, 0, 0);
        due("sharp 10", 1, x.people(1, 0, 2));
        Check.bytes(x, 1, 0, 0, 0, 0, 10, 0);
        due("kind 10", 1, x.people(1, 0, 2));
        Check.bytes(x, 1, 0, -1, 0);
        due("kind -1", 0, x.people(1, 0, 1));
        Check.bytes(x, 1, 0, 0, 7);
        due("hates 7", 0, x.people(1, 0, 1));
        Check.bytes(x, 1, 0, 0, -1);
        due("hates -1", 0, x.people(1, 0, 1));
        x.row(1, 0, 12);
        due("full behind two", 2, x.people(1, 0, 4));
        due("full", 0, x.people(1, 0, 4));
        due("no change is kept", 0, x.count(3));
        for (int sort = 1; sort <= 4; sort++) {
            x.row(2, sort, 3);
            due("no bytes", -12, x.people(2, 0, 1));
            due("no bytes, below 0", -12, x.people(2, -1, 1));
        }
        x.body(0);
        x.keep(2, 0);
        due("a body", -12, x.people(2, 0, 1));
        due("a body, below 0", -12, x.people(2, -1, 1));
        due("seven came", 7, x.count(0));
    }

    private static void mendAndOf() {
        MustDefendHim x = Check.court(1, 2);
        int[] first = {1, 2, 0, 5};
        int[] highest = {9, 9, 6, 99};
        for (int what = 0; what < 4; what++) {
            due("was " + what, first[what], x.mend(0, what, highest[what]));
            due("is " + what, highest[what], x.of(0, what));
            due("too high " + what, -1, x.mend(0, what, highest[what] + 1));
            due("below 0 " + what, -1, x.mend(0, what, -1));
            due("was " + what, highest[what], x.mend(0, what, 0));
        }
        due("no such number", -1, x.mend(1, 0, 1));
        due("no such number", -1, x.mend(-1, 0, 1));
        due("no such what", -1, x.mend(0, 4, 1));
        due("no such what", -1, x.mend(0, -1, 1));
        due("of nobody", MustDefendHim.VOID, x.of(1, 0));
        due("of nobody", MustDefendHim.VOID, x.of(-1, 0));
        due("of what", MustDefendHim.VOID, x.of(0, 5));
        due("of what", MustDefendHim.VOID, x.of(0, -1));
        x.person(3, 3);
        x.hold(1, 0);
        due("bound", 1, x.of(0, 4));
        due("free", -1, x.of(1, 4));
    }

    private static void changes() {
        MustDefendHim x = Check.court(1, 2, 3, 4);
        due("none", -5, x.undo());
        due("none", -5, x.redo());
        x.mend(0, 0, 7);
        x.mend(1, 3, 50);
        due("the same number", 7, x.mend(0, 0, 7));
        x.mend(1, 3, 100);
        due("two may be undone", 2, x.count(3));
        due("undo", 1, x.undo());
        due("fee", 5, x.of(1, 3));
        due("sharp", 7, x.of(0, 0));
        due("undo", 0, x.undo());
        due("sharp", 1, x.of(0, 0));
        due("no more", -5, x.undo());
        due("the same number is no change", 1, x.mend(0, 0, 1));
        x.hold(1, 0);
        due("deeds are no changes", 0, x.count(3));
        due("redo", 1, x.redo());
        due("sharp", 7, x.of(0, 0));
        due("one may be undone", 1, x.count(3));
        due("redo", 0, x.redo());
        due("fee", 50, x.of(1, 3));
        due("no more", -5, x.redo());
        x.undo();
        x.mend(1, 1, 9);
        due("another came behind", -5, x.redo());
        due("undo", 1, x.undo());
        due("kind", 4, x.of(1, 1));
        due("what is bound stays", 1, x.of(0, 4));
    }

    /** Change i makes the fee of one of two people i; the first three can't be undone at last. */
    private static void manyChanges() {
        MustDefendHim x = Check.court(0, 0, 0, 0);
        int[][] fees = new int[44][];
        fees[0] = new int[] {5, 5};
        for (int i = 1; i <= 43; i++) {
            int one = i * i / 5 % 2;
            fees[i] = fees[i - 1].clone();
            fees[i][one] = i + 10;
            due("was", fees[i - 1][one], x.mend(one, 3, i + 10));
        }
        due("40 are kept", 40, x.count(3));
        for (int i = 0; i < 40; i++) {
            due("undo " + i, 39 - i, x.undo());
            due("fee of 0", fees[42 - i][0], x.of(0, 3));
            due("fee of 1", fees[42 - i][1], x.of(1, 3));
        }
        due("the oldest are gone", -5, x.undo());
        for (int i = 0; i < 40; i++) {
            due("redo " + i, 39 - i, x.redo());
            due("fee of 0", fees[4 + i][0], x.of(0, 3));
            due("fee of 1", fees[4 + i][1], x.of(1, 3));
        }
        due("no more", -5, x.redo());
        due("40 may be undone again", 40, x.count(3));
    }
}
