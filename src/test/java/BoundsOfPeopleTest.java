/**
 * The bounds of promises 1 to 5, 30 and 31 and of what "Terms" says of PEOPLE and CHANGES: each
 * sentence with what is just let, what is just not, and what is far off.
 */
public final class BoundsOfPeopleTest {
    private static final Check check = new Check("BoundsOfPeopleTest");
    private static final int BAD = MustDefendHim.BAD, FULL = MustDefendHim.FULL, STATE = MustDefendHim.STATE,
            VOID = MustDefendHim.VOID;
    private static final int SHARP = 0, KIND = 1, HATES = 2, FEE = 3, BOUND = 4;

    private static void due(String call, long want, long got) {
        check.due(call, want, got);
    }

    public static void main(String[] args) {
        emptyCourt();
        sharpAndKind();
        sevenPeople();
        hates();
        fee();
        freeAtFirst();
        howManyFromARow();
        rowIsMissing();
        rowEnds();
        notAsItMayBe();
        lowestBitsCount();
        fullWithinARow();
        noRowOfBytes();
        mendOf();
        bound();
        sameNumberIsNoChange();
        fortyChanges();
        doneAgain();
        check.end();
    }

    /** "An empty court." */
    private static void emptyCourt() {
        MustDefendHim x = new MustDefendHim();
        for (int what = 0; what <= 5; what++) {
            due("count " + what, 0, x.count(what));
        }
        for (int what = 0; what <= 4; what++) {
            due("led " + what, 0, x.led(what));
            due("of nobody " + what, VOID, x.of(0, what));
        }
        for (int shelf = 0; shelf <= 5; shelf++) {
            due("a shelf holds nothing", -11, x.taken(shelf, 0));
            due("a shelf holds nothing", -11, x.put(shelf, 0, 1));
        }
        due("no change", STATE, x.undo());
        due("no change", STATE, x.redo());
        due("no image", STATE, x.back());
        due("no trace", BAD, x.trace(0));
        due("nobody was bound", 0, x.year());
        due("the first number", 0, x.person(0, 0));
        due("the second number", 1, x.person(0, 0));
        due("no law yet: 6", 6, x.wins(1, 0));
    }

    /** "SHARP (0 .. 9 ..), KIND (0 .. 9 ..)" */
    private static void sharpAndKind() {
        check.range("sharp", 0, 9, BAD, v -> new MustDefendHim().person(v, 5));
        check.range("kind", 0, 9, BAD, v -> new MustDefendHim().person(5, v));
        for (int v = 0; v <= 9; v++) {
            MustDefendHim x = new MustDefendHim();
            due("its number", 0, x.person(v, 9 - v));
            due("sharp", v, x.of(0, SHARP));
            due("kind", 9 - v, x.of(0, KIND));
        }
        due("both are bad", BAD, new MustDefendHim().person(10, 10));
    }

    /** "PEOPLE 0 .. 6, as they come"; "FULL: 7" */
    private static void sevenPeople() {
        MustDefendHim x = new MustDefendHim();
        for (int i = 0; i < 7; i++) {
            due("nobody yet", VOID, x.of(i, SHARP));
            due("nobody yet", BAD, x.mend(i, SHARP, 1));
            due("as they come", i, x.person(i, i));
            due("so many", i + 1, x.count(0));
            due("is there", i, x.of(i, SHARP));
        }
        due("an eighth", FULL, x.person(9, 9));
        due("an eighth that is bad", BAD, x.person(-1, 9));
        due("seven", 7, x.count(0));
        due("6 is the last", 6, x.of(6, SHARP));
        due("7 is nobody", VOID, x.of(7, SHARP));
        due("-1 is nobody", VOID, x.of(-1, SHARP));
    }

    /** "HATES (one of the PEOPLE or a number that is none yet, 0 .. 6; its own number at first: nobody)" */
    private static void hates() {
        MustDefendHim x = Check.court(0, 0);
        due("its own at first", 0, x.of(0, HATES));
        due("none yet", 0, x.mend(0, HATES, 6));
        due("below", BAD, x.mend(0, HATES, -1));
        due("above", BAD, x.mend(0, HATES, 7));
        due("it stays", 6, x.of(0, HATES));
        for (int i = 1; i < 7; i++) {
            x.person(0, 0);
            due("its own at first", i, x.of(i, HATES));
            due("who hates whom", i == 6 ? 7 : 6, x.wins(i, 0));
            due("its own number is nobody", 6, x.wins(10 * i, 0));
        }
        due("of 6", 6, x.mend(0, HATES, 0));
        due("nobody any more", 6, x.wins(6, 0));
        check.range("hates", 0, 6, BAD, v -> x.mend(3, HATES, v));
    }

    /** "FEE (0 .. 99; 5 at first)" */
    private static void fee() {
        MustDefendHim x = Check.court(0, 0, 0, 0);
        due("at first", 5, x.of(0, FEE));
        due("0", 5, x.mend(0, FEE, 0));
        due("99", 0, x.mend(0, FEE, 99));
        due("100", BAD, x.mend(0, FEE, 100));
        due("-1", BAD, x.mend(0, FEE, -1));
        due("it stays", 99, x.of(0, FEE));
        x.hold(1, 0);
        due("99 is paid", 99, x.led(4));
        x.release(0);
        x.mend(0, FEE, 0);
        x.hold(1, 0);
        due("nothing is paid", 99, x.led(4));
        check.range("fee", 0, 99, BAD, v -> x.mend(1, FEE, v));
    }

    /** "BOUND to somebody .. or FREE (-1, as at first)" */
    private static void freeAtFirst() {
        MustDefendHim x = new MustDefendHim();
        x.row(0, 0, 9);
        x.person(1, 1);
        x.people(0, 0, 3);
        for (int one = 0; one < 4; one++) {
            due("free at first", -1, x.of(one, BOUND));
        }
        due("none is bound", 0, x.count(1));
    }

    /** "n (1 .. 7) of them: how many came" */
    private static void howManyFromARow() {
        for (int n = -1; n <= 8; n++) {
            MustDefendHim x = new MustDefendHim();
            x.row(0, 0, 24);
            boolean isLet = n >= 1 && n <= 7;
            due("n " + n, isLet ? n : BAD, x.people(0, 0, n));
            due("came by n " + n, isLet ? n : 0, x.count(0));
        }
        check.range("n", 1, 7, BAD, v -> new MustDefendHim().people(0, 0, v));
        check.range("shelf", 0, 5, BAD, v -> new MustDefendHim().people(v, 0, 1));
    }

    /** "it ends where the row is missing"; "a SHELF that holds nothing is missing" */
    private static void rowIsMissing() {
        MustDefendHim x = new MustDefendHim();
        for (int place : new int[] {Integer.MIN_VALUE, -1, 0, 1, Integer.MAX_VALUE}) {
            due("missing, from " + place, 0, x.people(0, place, 7));
        }
        x.row(0, 0, 3);
        due("there", 1, x.people(0, 0, 7));
        x.keep(0, -1);
        due("missing again", 0, x.people(0, 0, 7));
        due("one came", 1, x.count(0));
    }

    /** "it ends where the row .. ends (within a three, too)": every size and place up to a third one */
    private static void rowEnds() {
        for (int size = 0; size <= 10; size++) {
            for (int place = -4; place <= 11; place++) {
                MustDefendHim x = new MustDefendHim();
                x.row(0, 0, size);
                for (int i = 0; i < size; i++) {
                    x.put(0, i, i % 7);
                }
                int whole = place < 0 ? 0 : Math.max(0, (size - place) / 3);
                due("size " + size + " from " + place, whole, x.people(0, place, 7));
                due("so many are there", whole, x.count(0));
                for (int k = 0; k < whole; k++) {
                    due("sharp", (place + 3 * k) % 7, x.of(k, SHARP));
                    due("kind", (place + 3 * k + 1) % 7, x.of(k, KIND));
                    due("hates", (place + 3 * k + 2) % 7, x.of(k, HATES));
                }
            }
        }
        MustDefendHim x = new MustDefendHim();
        x.row(0, 0, 60);
        due("from the last place of all", 0, x.people(0, 59, 1));
        due("from the last but one", 0, x.people(0, 58, 1));
        due("from the last three", 1, x.people(0, 57, 2));
        due("far behind", 0, x.people(0, Integer.MAX_VALUE, 7));
        due("just below the greatest", 0, x.people(0, Integer.MAX_VALUE - 2, 7));
        due("far below", 0, x.people(0, Integer.MIN_VALUE, 7));
    }

    /** "it ends where .. one is not as it may be: those ahead came" */
    private static void notAsItMayBe() {
        int[] highest = {9, 9, 6};
        for (int which = 0; which < 3; which++) {
            for (int v : new int[] {-128, -1, 0, highest[which], highest[which] + 1, 127}) {
                MustDefendHim x = new MustDefendHim();
                Check.bytes(x, 0, 1, 2, 3, 4, 5, 6, 7, 8, 0);
                x.put(0, 3 + which, v);
                boolean is = v >= 0 && v <= highest[which];
                due("the second's " + which + " is " + v, is ? 3 : 1, x.people(0, 0, 7));
                due("those ahead came", is ? 3 : 1, x.count(0));
                due("the first one", 1, x.of(0, SHARP));
            }
        }
    }

    /** "what is put in keeps its lowest bits": what the row holds counts, not what was told */
    private static void lowestBitsCount() {
        MustDefendHim x = new MustDefendHim();
        Check.bytes(x, 0, 256 + 9, -256 + 9, 1024 + 6);
        due("9, 9, 6", 1, x.people(0, 0, 1));
        due("9", 9, x.of(0, SHARP));
        due("6", 6, x.of(0, HATES));
        Check.bytes(x, 0, 256 + 10, 0, 0);
        due("10", 0, x.people(0, 0, 1));
    }

    /** "it ends where .. PEOPLE are FULL: those ahead came" */
    private static void fullWithinARow() {
        for (int there = 5; there <= 7; there++) {
            MustDefendHim x = new MustDefendHim();
            for (int i = 0; i < there; i++) {
                x.person(0, 0);
            }
            Check.bytes(x, 0, 1, 0, 0, 2, 0, 0, 3, 0, 0);
            due(there + " are there", 7 - there, x.people(0, 0, 3));
            due("seven", 7, x.count(0));
            due("the last one", there == 7 ? 0 : 7 - there, x.of(6, SHARP));
        }
    }

    /** "-12 (no ROW of bytes ..)" */
    private static void noRowOfBytes() {
        MustDefendHim x = new MustDefendHim();
        for (int sort = 0; sort <= 4; sort++) {
            x.row(0, sort, 3);
            due("sort " + sort, sort == 0 ? 1 : -12, x.people(0, 0, 1));
            x.row(0, sort, 0);
            due("none of sort " + sort, sort == 0 ? 0 : -12, x.people(0, 0, 1));
        }
        x.body(0);
        x.keep(0, 0);
        due("a body", -12, x.people(0, 0, 1));
        due("one came in all", 1, x.count(0));
    }

    /** "SHARP (what 0), KIND (1), HATES (2), FEE (3) of one becomes v: what it was. BAD." */
    private static void mendOf() {
        int[] highest = {9, 9, 6, 99};
        MustDefendHim x = Check.court(3, 4, 3, 4, 3, 4);
        for (int what = 0; what < 4; what++) {
            int w = what;
            check.range("mend " + what, 0, highest[what], BAD, v -> x.mend(1, w, v));
            due("the last that was let", highest[what], x.of(1, what));
        }
        for (int one : new int[] {0, 2}) {
            due("another's sharp", 3, x.of(one, SHARP));
            due("another's kind", 4, x.of(one, KIND));
            due("another's hates", one, x.of(one, HATES));
            due("another's fee", 5, x.of(one, FEE));
        }
        check.range("mend, what", 0, 3, BAD, v -> x.mend(0, v, 1));
        check.range("mend, number", 0, 2, BAD, v -> x.mend(v, KIND, 1));
        check.range("of, what", 0, 4, VOID, v -> x.of(0, v));
        check.range("of, number", 0, 2, VOID, v -> x.of(v, KIND));
        due("to whom it is bound is not mended", BAD, x.mend(0, BOUND, 1));
    }

    /** "4 to whom it is BOUND in deed (-1: FREE)" */
    private static void bound() {
        MustDefendHim x = Check.court(0, 0, 0, 0, 0, 0);
        Check.bytes(x, 0, 0, 1, 0);
        due("in thought", 1, x.course(0, 0));
        due("not in deed", -1, x.of(0, BOUND));
        x.hold(20, 0);
        due("to the first", 0, x.of(2, BOUND));
        x.hold(2, 0);
        due("to the last", 2, x.of(0, BOUND));
        due("who spoke for himself is free", -1, x.of(2, BOUND));
    }

    /** "telling the same number is none" */
    private static void sameNumberIsNoChange() {
        MustDefendHim x = Check.court(3, 4);
        int[] first = {3, 4, 0, 5};
        for (int what = 0; what < 4; what++) {
            due("the same", first[what], x.mend(0, what, first[what]));
            due("no change", 0, x.count(3));
            due("another", first[what], x.mend(0, what, first[what] + 1));
            due("a change", 1, x.count(3));
            due("undone", 0, x.undo());
            due("as it was", first[what], x.of(0, what));
        }
    }

    /** "40 at most are kept": 39, 40, 41, 80 and 81 of them, and what they undo */
    private static void fortyChanges() {
        for (int many : new int[] {1, 39, 40, 41, 80, 81}) {
            MustDefendHim x = Check.court(0, 0);
            for (int i = 1; i <= many; i++) {
                due("was", i == 1 ? 5 : 9 + (i - 1) % 90, x.mend(0, FEE, 9 + i % 90));
                due("may be undone", Math.min(40, i), x.count(3));
            }
            int kept = Math.min(40, many);
            for (int i = 1; i <= kept; i++) {
                due("may still be undone", kept - i, x.undo());
                due("the latest first", many == i ? 5 : 9 + (many - i) % 90, x.of(0, FEE));
            }
            due("none", STATE, x.undo());
            due("it stays", many <= 40 ? 5 : 9 + (many - 40) % 90, x.of(0, FEE));
            for (int i = 1; i <= kept; i++) {
                due("may still be done again", kept - i, x.redo());
            }
            due("none", STATE, x.redo());
            due("as told last", 9 + many % 90, x.of(0, FEE));
        }
    }

    /** "DONE AGAIN (as long as no other came behind)"; what is no change is no other one */
    private static void doneAgain() {
        MustDefendHim x = Check.court(3, 4, 3, 4);
        due("none", STATE, x.redo());
        x.mend(0, FEE, 10);
        x.mend(0, FEE, 11);
        x.mend(0, FEE, 12);
        due("nothing was undone", STATE, x.redo());
        due("undo", 2, x.undo());
        due("undo", 1, x.undo());
        x.mend(0, FEE, 10);
        x.mend(0, FEE, 100);
        x.person(1, 1);
        x.hold(1, 0);
        x.year();
        x.image();
        x.back();
        due("no other came behind", 1, x.redo());
        due("done again", 11, x.of(0, FEE));
        due("two may be undone", 2, x.count(3));
        x.mend(1, SHARP, 9);
        due("another came behind", STATE, x.redo());
        due("it stays", 11, x.of(0, FEE));
        due("undo the other", 2, x.undo());
        due("the other again", 0, x.redo());
        due("done again", 9, x.of(1, SHARP));
    }
}
