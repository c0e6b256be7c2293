import java.util.ArrayList;
import java.util.List;

/**
 * "Answers, of several the one named first ... What is answered so changes nothing." Each refused
 * call of each promise, in an empty, a busy and a full court, and behind it the whole court read
 * beside one that never heard it; in thought, calls that are not refused change nothing either.
 */
public final class RefusedTest {
    private static final Check check = new Check("RefusedTest");
    private static final int BAD = MustDefendHim.BAD, NOT = MustDefendHim.NOT, FULL = MustDefendHim.FULL,
            STATE = MustDefendHim.STATE, VOID = MustDefendHim.VOID;
    private static final long NONE = Long.MIN_VALUE;
    private static final int LEAST = Integer.MIN_VALUE, MOST = Integer.MAX_VALUE;
    // what the shelves of the busy court hold
    private static final int BYTES = 0, BODY = 1, NOTHING = 2, INTS = 3, FLAGS = 4, UNKNOWN = 5;

    private final List<Check.Call> script = new ArrayList<>();
    private String plain = null;

    public static void main(String[] args) {
        new RefusedTest().empty();
        RefusedTest busy = new RefusedTest();
        busy.makeBusy();
        busy.refusedPeople();
        busy.refusedLaw();
        busy.refusedRowsInThought();
        busy.refusedPairs();
        busy.refusedOnes();
        busy.refusedDeeds();
        busy.refusedActs();
        busy.refusedShelves();
        busy.severalAtOnce();
        busy.thought();
        new RefusedTest().full();
        new RefusedTest().fifth();
        check.end();
    }

    private void then(Check.Call call) {
        script.add(call);
    }

    private void thenBytes(int shelf, int... values) {
        then(x -> x.row(shelf, 0, values.length));
        for (int i = 0; i < values.length; i++) {
            int at = i;
            if (values[i] != 0) {
                then(x -> x.put(shelf, at, values[at]));
            }
        }
    }

    private void thenFeed(String text) {
        for (char letter : text.toCharArray()) {
            then(x -> x.feed(letter));
        }
    }

    private MustDefendHim made() {
        MustDefendHim x = new MustDefendHim();
        for (Check.Call call : script) {
            call.on(x);
        }
        return x;
    }

    /** The call is answered so, and the court behind it is read as if it had never come. */
    private void same(String call, long want, Check.Call asked) {
        if (plain == null) {
            plain = Reading.of(made(), script.size());
        }
        MustDefendHim x = made();
        check.due(call, want, asked.on(x));
        check.holds(call + " changes nothing", Reading.of(x, script.size() + 1).equals(plain));
    }

    private interface ByInt {
        long on(MustDefendHim x, int v);
    }

    private void sameFor(String call, long want, ByInt asked, int... values) {
        for (int v : values) {
            same(call + " by " + v, want, x -> asked.on(x, v));
        }
    }

    private void empty() {
        same("of", VOID, x -> x.of(0, 0));
        same("mend", BAD, x -> x.mend(0, 0, 1));
        same("wins", BAD, x -> x.wins(1, 0));
        same("best", BAD, x -> x.best(0, 0));
        same("beside", NONE, x -> x.beside(1, 0));
        same("tillBound", BAD, x -> x.tillBound(1));
        same("round", NOT, x -> x.round());
        same("sure", BAD, x -> x.sure(1));
        same("quiet", BAD, x -> x.quiet(0, 0));
        same("friend", VOID, x -> x.friend(1, 0));
        same("hold", BAD, x -> x.hold(1, 0));
        same("release", VOID, x -> x.release(0));
        same("back", STATE, x -> x.back());
        same("undo", STATE, x -> x.undo());
        same("redo", STATE, x -> x.redo());
        same("trace", BAD, x -> x.trace(0));
        same("keep", BAD, x -> x.keep(0, 0));
        same("drawn", BAD, x -> x.drawn(1, 101, 1, 0));
        sameFor("course", VOID, (x, v) -> x.course(v, -1), -1, 0, 5, 6);
        sameFor("put", -11, (x, v) -> x.put(v, 0, 1), 0, 5);
        sameFor("element", NONE, (x, v) -> x.element(v, 0), 0, 5);
        sameFor("taken", -11, (x, v) -> x.taken(v, 0), 0, 5);
        sameFor("people from a missing row", 0, (x, v) -> x.people(v, 0, 7), 0, 5);
        same("an act of no body", 0, x -> x.act(0, 0, 1));
    }

    /** Four people, 0 bound to 1, changes done and undone, an image, a trace, all kinds of shelves. */
    private void makeBusy() {
        int[][] four = {{5, 3}, {2, 8}, {4, 4}, {7, 1}};
        for (int[] p : four) {
            then(x -> x.person(p[0], p[1]));
        }
        thenFeed("o?a-d+6+n;h+b+2");
        then(x -> x.law());
        then(x -> x.mend(0, 2, 3));
        then(x -> x.mend(1, 3, 20));
        then(x -> x.mend(2, 0, 9));
        then(x -> x.mend(3, 3, 6));
        then(x -> x.mend(0, 3, 7));
        then(x -> x.undo());
        then(x -> x.undo());
        then(x -> x.hold(23, 1));
        then(x -> x.year());
        then(x -> x.hold(31, 0));
        then(x -> x.image());
        then(x -> x.release(3));
        then(x -> x.hold(21, 1));
        then(x -> x.hold(1, 0));
        then(x -> x.body(0));
        then(x -> x.body(5));
        then(x -> x.act(1, 3, 5));
        thenBytes(BYTES, 2, 1, 1, 1, 2, 0, 3);
        then(x -> x.keep(BODY, 1));
        then(x -> x.row(INTS, 2, 3));
        then(x -> x.put(INTS, 1, 70000));
        then(x -> x.row(FLAGS, 4, 2));
        then(x -> x.put(FLAGS, 1, 1));
        thenBytes(UNKNOWN, 2, 3, -1, 2, 3, -1, 2, 3, -1, 2, 3, -1, 2, 3, -1, 2, 3, -1, 2, 3, -1, 2, 3, -1,
                2, 3, -1);
        thenFeed("n+2");
    }

    private void refusedPeople() {
        sameFor("person, sharp", BAD, (x, v) -> x.person(v, 5), LEAST, -1, 10, MOST);
        sameFor("person, kind", BAD, (x, v) -> x.person(5, v), LEAST, -1, 10, MOST);
        sameFor("people, shelf", BAD, (x, v) -> x.people(v, 0, 1), LEAST, -1, 6, MOST);
        sameFor("people, n", BAD, (x, v) -> x.people(BYTES, 0, v), LEAST, -1, 0, 8, MOST);
        sameFor("people of no bytes", -12, (x, v) -> x.people(v, 0, 1), BODY, INTS, FLAGS);
        sameFor("people of nothing", 0, (x, v) -> x.people(v, 0, 1), NOTHING);
        sameFor("people from no place", 0, (x, v) -> x.people(BYTES, v, 7), LEAST, -3, -1, 5, 6, 7, 8, MOST);
        sameFor("people of an end that is none", 0, (x, v) -> x.people(UNKNOWN, v, 7), 0, 1, 2);
        sameFor("mend, number", BAD, (x, v) -> x.mend(v, 0, 1), LEAST, -1, 4, 7, MOST);
        sameFor("mend, what", BAD, (x, v) -> x.mend(0, v, 1), LEAST, -1, 4, MOST);
        sameFor("mend, sharp", BAD, (x, v) -> x.mend(0, 0, v), LEAST, -1, 10, MOST);
        sameFor("mend, kind", BAD, (x, v) -> x.mend(0, 1, v), LEAST, -1, 10, MOST);
        sameFor("mend, hates", BAD, (x, v) -> x.mend(0, 2, v), LEAST, -1, 7, MOST);
        sameFor("mend, fee", BAD, (x, v) -> x.mend(0, 3, v), LEAST, -1, 100, MOST);
        same("mend, the same number", 5, x -> x.mend(0, 0, 5));
        same("mend, the same fee", 20, x -> x.mend(1, 3, 20));
        sameFor("of, number", VOID, (x, v) -> x.of(v, 0), LEAST, -1, 4, 7, MOST);
        sameFor("of, what", VOID, (x, v) -> x.of(0, v), LEAST, -1, 5, MOST);
    }

    private void refusedLaw() {
        sameFor("feed", BAD, (x, v) -> x.feed(v), LEAST, -1, 256, MOST);
        sameFor("wins, what", BAD, (x, v) -> x.wins(1, v), LEAST, -1, 2, MOST);
    }

    private void refusedRowsInThought() {
        int[] none = {LEAST, -1, 6, MOST};
        int[] others = {BODY, INTS, FLAGS};
        sameFor("course, shelf", VOID, (x, v) -> x.course(v, -1), none);
        sameFor("course of no bytes", VOID, (x, v) -> x.course(v, -1), BODY, NOTHING, INTS, FLAGS);
        sameFor("course, one", VOID, (x, v) -> x.course(BYTES, v), LEAST, -2, 4, MOST);
        sameFor("ends, shelf", VOID, (x, v) -> x.ends(v, 0, 0), none);
        sameFor("ends of no bytes", VOID, (x, v) -> x.ends(v, 0, 1), BODY, NOTHING, INTS, FLAGS);
        sameFor("ends, one", VOID, (x, v) -> x.ends(BYTES, v, 0), LEAST, -1, 4, MOST);
        sameFor("ends, what", VOID, (x, v) -> x.ends(BYTES, 0, v), LEAST, -1, 2, MOST);
        sameFor("charges, shelf", BAD, (x, v) -> x.charges(v, 0), none);
        sameFor("charges, what", BAD, (x, v) -> x.charges(BYTES, v), LEAST, -1, 3, MOST);
        same("charges of nothing", -11, x -> x.charges(NOTHING, 0));
        sameFor("charges of no bytes", -12, (x, v) -> x.charges(v, 0), others);
        sameFor("days, shelf", BAD, (x, v) -> x.days(v, -1), none);
        sameFor("days, k", BAD, (x, v) -> x.days(BYTES, v), LEAST, -2);
        same("days of nothing", -11, x -> x.days(NOTHING, -1));
        sameFor("days of no bytes", -12, (x, v) -> x.days(v, -1), others);
        sameFor("days, not as many", NOT, (x, v) -> x.days(BYTES, v), 1, 2, MOST);
        sameFor("judge, shelf", BAD, (x, v) -> x.judge(v), none);
        same("judge of nothing", -11, x -> x.judge(NOTHING));
        sameFor("judge of no bytes", -12, (x, v) -> x.judge(v), others);
        sameFor("roll, shelf", BAD, (x, v) -> x.roll(v, 0), none);
        sameFor("roll, what", BAD, (x, v) -> x.roll(BYTES, v), LEAST, -1, 2, MOST);
        same("roll of nothing", -11, x -> x.roll(NOTHING, 0));
        sameFor("roll of no bytes", -12, (x, v) -> x.roll(v, 0), others);
        sameFor("roll of nine unknown ends", STATE, (x, v) -> x.roll(UNKNOWN, v), 0, 1);
        same("roll, no way", NOT, x -> x.roll(BYTES, 1));
        sameFor("sold, shelf", BAD, (x, v) -> x.sold(v), none);
        same("sold of nothing", -11, x -> x.sold(NOTHING));
        sameFor("sold of no bytes", -12, (x, v) -> x.sold(v), others);
        same("sold of nine unknown ends", STATE, x -> x.sold(UNKNOWN));
        same("sold, no way", NOT, x -> x.sold(BYTES));
    }

    /** No pair: below 0, nobody, alike, more than two digits. */
    private void refusedPairs() {
        int[] none = {LEAST, -10, -1, 0, 11, 33, 4, 40, 9, 90, 100, 101, MOST};
        sameFor("wins", BAD, (x, v) -> x.wins(v, 0), none);
        sameFor("who would speak", BAD, (x, v) -> x.wins(v, 1), none);
        sameFor("beside", NONE, (x, v) -> x.beside(v, 0), none);
        sameFor("beside, part", NONE, (x, v) -> x.beside(1, v), LEAST, -1, 2, MOST);
        sameFor("tillBound", BAD, (x, v) -> x.tillBound(v), none);
        sameFor("sure", BAD, (x, v) -> x.sure(v), none);
        sameFor("sure, not free", STATE, (x, v) -> x.sure(v), 1, 2, 3);
        sameFor("friend", VOID, (x, v) -> x.friend(v, 0), none);
        sameFor("friend, k", VOID, (x, v) -> x.friend(1, v), LEAST, -1, 10, MOST);
        sameFor("hold", BAD, (x, v) -> x.hold(v, 0), none);
        sameFor("hold, end", BAD, (x, v) -> x.hold(21, v), LEAST, -1, 2, MOST);
        sameFor("hold, not let", STATE, (x, v) -> x.hold(v, 1), 1, 2, 3);
    }

    private void refusedOnes() {
        int[] none = {LEAST, -1, 4, 7, MOST};
        sameFor("best", BAD, (x, v) -> x.best(v, 0), none);
        sameFor("best, what", BAD, (x, v) -> x.best(2, v), LEAST, -1, 2, MOST);
        sameFor("best, not free", NOT, (x, v) -> x.best(0, v), 0, 1);
        sameFor("quiet", BAD, (x, v) -> x.quiet(v, 0), none);
        sameFor("quiet, what", BAD, (x, v) -> x.quiet(0, v), LEAST, -1, 2, MOST);
        sameFor("drawn, nm", BAD, (x, v) -> x.drawn(1, v, 0, 0), LEAST, -101, -1, 0, 1, 60, 100, 161, 199, 200,
                3000, 3061, 3101, 3160, MOST);
        sameFor("drawn, what", BAD, (x, v) -> x.drawn(1, 101, v, 0), LEAST, -1, 3, MOST);
        sameFor("drawn, one", BAD, (x, v) -> x.drawn(1, 101, 1, v), none);
        sameFor("release", VOID, (x, v) -> x.release(v), none);
    }

    private void refusedDeeds() {
        sameFor("led", BAD, (x, v) -> x.led(v), LEAST, -1, 5, MOST);
        sameFor("count", BAD, (x, v) -> x.count(v), LEAST, -1, 6, MOST);
    }

    private void refusedActs() {
        sameFor("body", BAD, (x, v) -> x.body(v), LEAST, -1, 8, MOST);
        sameFor("trace", BAD, (x, v) -> x.trace(v), LEAST, -1, 10, 23, 24, MOST);
        sameFor("keep, shelf", BAD, (x, v) -> x.keep(v, 0), LEAST, -1, 6, MOST);
        sameFor("keep nothing, shelf", BAD, (x, v) -> x.keep(v, -1), LEAST, -1, 6, MOST);
        sameFor("keep, body", BAD, (x, v) -> x.keep(BYTES, v), LEAST, -2, 2, 50, MOST);
        sameFor("taken, shelf", BAD, (x, v) -> x.taken(v, 0), LEAST, -1, 6, MOST);
        sameFor("taken, kind", BAD, (x, v) -> x.taken(BODY, v), LEAST, -1, 8, MOST);
        same("taken of nothing", -11, x -> x.taken(NOTHING, 0));
        sameFor("taken of no body", -12, (x, v) -> x.taken(v, 0), BYTES, INTS, FLAGS);
        sameFor("taken of another kind", -12, (x, v) -> x.taken(BODY, v), 1, 4, 6, 7);
    }

    private void refusedShelves() {
        int[] none = {LEAST, -1, 6, MOST};
        sameFor("row, shelf", BAD, (x, v) -> x.row(v, 0, 1), none);
        sameFor("row, sort", BAD, (x, v) -> x.row(BYTES, v, 1), LEAST, -1, 5, MOST);
        sameFor("row, n above", BAD, (x, v) -> x.row(BYTES, 0, v), 61, MOST);
        sameFor("row, n below", -14, (x, v) -> x.row(BYTES, 0, v), LEAST, -1);
        sameFor("put, shelf", BAD, (x, v) -> x.put(v, 0, 1), none);
        same("put to nothing", -11, x -> x.put(NOTHING, 0, 1));
        same("put to a body", -12, x -> x.put(BODY, 0, 1));
        sameFor("put, place", -13, (x, v) -> x.put(BYTES, v, 1), LEAST, -1, 7, 59, 60, MOST);
        sameFor("put to ints, place", -13, (x, v) -> x.put(INTS, v, 1), LEAST, -1, 3, MOST);
        sameFor("element, shelf", NONE, (x, v) -> x.element(v, 0), none);
        sameFor("element of nothing, of a body", NONE, (x, v) -> x.element(v, 0), NOTHING, BODY);
        sameFor("element, place", NONE, (x, v) -> x.element(BYTES, v), LEAST, -1, 7, MOST);
        sameFor("shift, shelf", BAD, (x, v) -> x.shift(v, 0, BYTES, 0, 1), none);
        sameFor("shift, other", BAD, (x, v) -> x.shift(BYTES, 0, v, 0, 1), none);
        same("shift from nothing", -11, x -> x.shift(NOTHING, 0, BYTES, 0, 1));
        same("shift to nothing", -11, x -> x.shift(BYTES, 0, NOTHING, 0, 1));
        same("shift of nothing to itself", -11, x -> x.shift(NOTHING, 0, NOTHING, 0, 0));
        sameFor("shift to no row of bytes", -12, (x, v) -> x.shift(BYTES, 0, v, 0, 1), BODY, INTS, FLAGS);
        sameFor("shift from no row of bytes", -12, (x, v) -> x.shift(v, 0, BYTES, 0, 1), BODY, INTS, FLAGS);
        same("shift of a body to itself", -12, x -> x.shift(BODY, 0, BODY, 0, 0));
        sameFor("shift, i", -13, (x, v) -> x.shift(BYTES, v, UNKNOWN, 0, 1), LEAST, -1, 7, MOST);
        sameFor("shift, j", -13, (x, v) -> x.shift(UNKNOWN, 0, BYTES, v, 1), LEAST, -1, 7, MOST);
        sameFor("shift, n", -13, (x, v) -> x.shift(BYTES, 0, UNKNOWN, 0, v), LEAST, -1, 8, MOST);
        sameFor("shift, n of what takes it", -13, (x, v) -> x.shift(UNKNOWN, 0, BYTES, 0, v), 8, 27, MOST);
        same("shift of none", 0, x -> x.shift(BYTES, 7, UNKNOWN, 27, 0));
    }

    /** Where a call is wrong in several ways, the answer that is named first. */
    private void severalAtOnce() {
        same("people: BAD ahead of -12", BAD, x -> x.people(INTS, 0, 8));
        same("people: -12 ahead of a place", -12, x -> x.people(INTS, -1, 1));
        same("course: VOID for both", VOID, x -> x.course(NOTHING, 9));
        same("best: BAD ahead of NOT", BAD, x -> x.best(0, 2));
        same("charges: BAD ahead of -11", BAD, x -> x.charges(NOTHING, 3));
        same("charges: BAD ahead of -12", BAD, x -> x.charges(BODY, 3));
        same("days: BAD ahead of -11", BAD, x -> x.days(NOTHING, -2));
        same("days: BAD ahead of -12", BAD, x -> x.days(BODY, -2));
        same("days: -11 ahead of NOT", -11, x -> x.days(NOTHING, 9));
        same("days: -12 ahead of NOT", -12, x -> x.days(INTS, 9));
        same("roll: BAD ahead of -11", BAD, x -> x.roll(NOTHING, 2));
        same("roll: BAD ahead of -12", BAD, x -> x.roll(BODY, 2));
        same("roll: BAD ahead of STATE", BAD, x -> x.roll(UNKNOWN, 2));
        same("hold: BAD ahead of STATE", BAD, x -> x.hold(1, 2));
        same("sure: BAD ahead of STATE", BAD, x -> x.sure(0));
        same("row: BAD for the sort ahead of -14", BAD, x -> x.row(BYTES, 5, -1));
        same("row: BAD for the shelf ahead of -14", BAD, x -> x.row(6, 0, -1));
        same("put: BAD ahead of all", BAD, x -> x.put(6, -1, 1));
        same("put: -11 ahead of -13", -11, x -> x.put(NOTHING, -1, 1));
        same("put: -12 ahead of -13", -12, x -> x.put(BODY, -1, 1));
        same("shift: BAD ahead of -11", BAD, x -> x.shift(NOTHING, 0, 6, 0, 0));
        same("shift: BAD ahead of -12", BAD, x -> x.shift(6, 0, BODY, 0, 0));
        same("shift: -11 ahead of -12", -11, x -> x.shift(BODY, 0, NOTHING, 0, 0));
        same("shift: -11 ahead of -13", -11, x -> x.shift(BYTES, -1, NOTHING, 0, 0));
        same("shift: -12 ahead of -13", -12, x -> x.shift(BYTES, -1, INTS, -1, -1));
        same("taken: BAD ahead of -11", BAD, x -> x.taken(NOTHING, 8));
        same("taken: BAD ahead of -12", BAD, x -> x.taken(BYTES, 8));
    }

    /** In thought: answered as it should be, and nothing has come of it. */
    private void thought() {
        same("wins: 0 speaks for 1, so h + b + 2", 3, x -> x.wins(21, 0));
        same("who would speak", 0, x -> x.wins(21, 1));
        same("course", 2, x -> x.course(BYTES, -1));
        same("course, one", 2, x -> x.course(BYTES, 1));
        same("ends", 83333, x -> x.ends(BYTES, 0, 0));
        same("fees", -40, x -> x.ends(BYTES, 1, 1));
        same("best: of like ones the least", 0, x -> x.best(2, 0));
        same("beside: 9 of 12", 3, x -> x.beside(21, 0));
        same("tillBound", 1, x -> x.tillBound(21));
        same("round", 1, x -> x.round());
        same("sure", NOT, x -> x.sure(21));
        same("charges", 13, x -> x.charges(BYTES, 0));
        same("days", 1, x -> x.days(BYTES, -1));
        same("quiet", 3, x -> x.quiet(2, 0));
        same("judge", 2, x -> x.judge(BYTES));
        same("roll", 0, x -> x.roll(BYTES, 0));
        same("friend", 0, x -> x.friend(21, 3));
        int free = 0;
        int z = 5;
        for (int year = 0; year < 30; year++) {
            z = z * 1103515245 + 12345;
            free += (z >>> 4) % 4 == 0 ? 0 : 1;
        }
        same("drawn: all but 0 are free", free, x -> x.drawn(5, 3001, 0, 0));
        same("led", 4, x -> x.led(0));
        same("element", 2, x -> x.element(BYTES, 0));
        same("taken", 5, x -> x.taken(BODY, 2));
        same("trace", 61, x -> x.trace(0));
    }

    /** 7 people, 120 bytes on the tape, 50 bodies, 40 changes behind which others are gone. */
    private void full() {
        for (int i = 0; i < 7; i++) {
            int one = i;
            then(x -> x.person(one, 9 - one));
        }
        for (int i = 1; i <= 41; i++) {
            int fee = 10 + i;
            then(x -> x.mend(fee % 4, 3, fee));
        }
        thenFeed("7");
        for (int i = 1; i < 120; i++) {
            String next = i % 2 == 1 ? "+" : "0";
            thenFeed(next);
        }
        for (int i = 0; i < 50; i++) {
            int kind = i % 8;
            then(x -> x.body(kind));
        }
        thenBytes(0, 1, 1, 1);
        same("an eighth person", FULL, x -> x.person(0, 0));
        same("an eighth person that is bad", BAD, x -> x.person(0, 10));
        same("people when full", 0, x -> x.people(0, 0, 1));
        same("people when full, n", BAD, x -> x.people(0, 0, 8));
        sameFor("a 121st byte", FULL, (x, v) -> x.feed(v), 0, '0', 255);
        sameFor("a 121st byte that is bad", BAD, (x, v) -> x.feed(v), -1, 256);
        sameFor("a 51st body", FULL, (x, v) -> x.body(v), 0, 7);
        sameFor("a 51st body that is bad", BAD, (x, v) -> x.body(v), -1, 8);
        same("keep a 51st body", BAD, x -> x.keep(0, 50));
        same("an act of a 51st body", 0, x -> x.act(50, 0, 1));
        same("tillBound of seven", STATE, x -> x.tillBound(1));
        same("round of seven", STATE, x -> x.round());
        same("sure of seven", STATE, x -> x.sure(1));
        same("none to do again", STATE, x -> x.redo());
    }

    private void fifth() {
        for (int i = 0; i < 5; i++) {
            then(x -> x.person(1, 1));
        }
        then(x -> x.hold(1, 0));
        thenBytes(0, 0, 1, 1, 2, 2, 0, 3, 4, 0, 2, 4, 0, 3, 1);
        sameFor("tillBound of five", STATE, (x, v) -> x.tillBound(v), 1, 10, 34);
        sameFor("tillBound: BAD ahead of STATE", BAD, (x, v) -> x.tillBound(v), 0, 5, 55);
        same("round of five", STATE, x -> x.round());
        sameFor("sure of five", STATE, (x, v) -> x.sure(v), 1, 10, 34);
        sameFor("sure: BAD ahead of STATE", BAD, (x, v) -> x.sure(v), 0, 5, 55);
        sameFor("days of seven charges: STATE, ahead of NOT", STATE, (x, v) -> x.days(0, v), -1, 0, 7, MOST);
        sameFor("days: BAD ahead of STATE", BAD, (x, v) -> x.days(0, v), -2, LEAST);
    }
}
