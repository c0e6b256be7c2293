/**
 * The bounds of promises 32 to 34, 40 and 41: 50 bodies of 8 kinds, 4 acts, an x that wraps, a
 * trace of which 24 are kept, what is taken for which kind, what is counted. The acts are laid
 * beside the same classes in Java itself.
 */
public final class BoundsOfActsTest {
    private static final Check check = new Check("BoundsOfActsTest");
    private static final int BAD = MustDefendHim.BAD, FULL = MustDefendHim.FULL;
    private static final StringBuilder ran = new StringBuilder();

    interface Brings {
        int number();

        default int brings(int x) {
            began(1);
            return x + number();
        }
    }

    interface Tells {
        int speaks(int x);

        int binds(int x);

        default int tells(int x) {
            began(2);
            return speaks(x) - binds(1);
        }
    }

    static class Case implements Brings, Tells {
        private final int number;

        Case(int number) {
            this.number = number;
        }

        @Override
        public int number() {
            return number;
        }

        @Override
        public int speaks(int x) {
            began(10);
            return brings(x) * 2;
        }

        @Override
        public int binds(int x) {
            began(11);
            return x ^ number;
        }
    }

    static class Charge extends Case {
        Charge(int number) {
            super(number);
        }

        @Override
        public int brings(int x) {
            began(20);
            return super.brings(x) + 3;
        }
    }

    static class Speech extends Case {
        Speech(int number) {
            super(number);
        }

        @Override
        public int speaks(int x) {
            began(30);
            return -super.speaks(x);
        }
    }

    static class Friend extends Speech {
        Friend(int number) {
            super(number);
        }

        @Override
        public int binds(int x) {
            began(40);
            return super.binds(x) * 3;
        }

        @Override
        public int speaks(int x) {
            began(41);
            return super.speaks(x + 1);
        }
    }

    static class Twice extends Charge {
        Twice(int number) {
            super(number);
        }

        @Override
        public int tells(int x) {
            began(50);
            return super.tells(x) ^ 5;
        }
    }

    static class Roll extends Friend {
        Roll(int number) {
            super(number);
        }

        @Override
        public int binds(int x) {
            began(60);
            return super.binds(x) - brings(2);
        }

        @Override
        public int tells(int x) {
            began(61);
            return super.tells(x) + 1;
        }
    }

    static class Sold extends Case {
        Sold(int number) {
            super(number);
        }

        @Override
        public int brings(int x) {
            began(70);
            return super.brings(x) * 2;
        }
    }

    static class Still extends Sold {
        Still(int number) {
            super(number);
        }

        @Override
        public int speaks(int x) {
            began(80);
            return super.speaks(x) + binds(2);
        }

        @Override
        public int brings(int x) {
            began(81);
            return super.brings(x) - 1;
        }
    }

    static void began(int body) {
        ran.append(body).append(' ');
    }

    private static Case made(int kind, int number) {
        switch (kind) {
            case 0: return new Case(number);
            case 1: return new Charge(number);
            case 2: return new Speech(number);
            case 3: return new Friend(number);
            case 4: return new Twice(number);
            case 5: return new Roll(number);
            case 6: return new Sold(number);
            default: return new Still(number);
        }
    }

    private static void due(String call, long want, long got) {
        check.due(call, want, got);
    }

    public static void main(String[] args) {
        kinds();
        fifty();
        acts();
        noSuch();
        trace();
        keep();
        taken();
        counts();
        check.end();
    }

    /** "A BODY of a KIND (0 .. 7) is kept: its number. BAD" */
    private static void kinds() {
        check.range("kind", 0, 7, BAD, v -> new MustDefendHim().body(v));
        MustDefendHim x = new MustDefendHim();
        for (int kind = -1; kind <= 8; kind++) {
            boolean is = kind >= 0 && kind <= 7;
            due("kind " + kind, is ? kind : BAD, x.body(kind));
            due("so many", Math.max(0, Math.min(8, kind + 1)), x.count(4));
        }
    }

    /** "BODIES 0 .. 49"; "FULL" */
    private static void fifty() {
        MustDefendHim x = new MustDefendHim();
        for (int i = 0; i < 50; i++) {
            due("not there yet", 0, x.act(i, 0, 1));
            due("not there yet", BAD, x.keep(0, i));
            due("its number", i, x.body(0));
            due("x and its number", 7 + i, x.act(i, 0, 7));
        }
        for (int kind = 0; kind <= 7; kind++) {
            due("full", FULL, x.body(kind));
        }
        due("bad, though full", BAD, x.body(8));
        due("bad, though full", BAD, x.body(-1));
        due("fifty", 50, x.count(4));
        due("the last", 49, x.act(49, 0, 0));
        due("behind the last", 0, x.act(50, 0, 7));
    }

    private static int done(Case body, int act, int x) {
        switch (act) {
            case 0: return body.brings(x);
            case 1: return body.speaks(x);
            case 2: return body.binds(x);
            default: return body.tells(x);
        }
    }

    /** "x (an int that wraps)": each act of each kind, numbers 0 .. 49, x at the ends of the ints */
    private static void acts() {
        int[] some = {Integer.MIN_VALUE, Integer.MIN_VALUE + 1, -1, 0, 1, 5, Integer.MAX_VALUE - 1, Integer.MAX_VALUE};
        for (int number : new int[] {0, 1, 7, 48, 49}) {
            for (int kind = 0; kind <= 7; kind++) {
                MustDefendHim x = new MustDefendHim();
                for (int i = 0; i < number; i++) {
                    x.body((kind + 1) % 8);
                }
                x.body(kind);
                for (int act = 0; act <= 3; act++) {
                    for (int v : some) {
                        ran.setLength(0);
                        due("kind " + kind + " act " + act + " of " + number + " with " + v,
                                done(made(kind, number), act, v), x.act(number, act, v));
                    }
                    traceIs(x, "kind " + kind + " act " + act);
                }
            }
        }
    }

    private static void traceIs(MustDefendHim x, String call) {
        StringBuilder got = new StringBuilder();
        for (int i = 0; i < x.count(5); i++) {
            got.append(x.trace(i)).append(' ');
        }
        check.holds(call + " ran " + got + "and should have run " + ran, got.toString().equals(ran.toString()));
        due("behind the last", BAD, x.trace(x.count(5)));
    }

    /** "An ACT (0 .. 3) of a BODY with x. 0, and no TRACE then: no such BODY, ACT." */
    private static void noSuch() {
        MustDefendHim x = new MustDefendHim();
        x.body(0);
        x.body(1);
        int[] none = {Integer.MIN_VALUE, -1, 2, 50, Integer.MAX_VALUE};
        int[] noAct = {Integer.MIN_VALUE, -1, 4, Integer.MAX_VALUE};
        for (int body : none) {
            due("brings", 10, x.act(1, 0, 6));
            due("ran", 2, x.count(5));
            due("no body " + body, 0, x.act(body, 0, 6));
            due("none ran", 0, x.count(5));
            due("no trace", BAD, x.trace(0));
        }
        for (int act : noAct) {
            due("brings", 10, x.act(1, 0, 6));
            due("no act " + act, 0, x.act(1, act, 6));
            due("none ran", 0, x.count(5));
            due("no trace", BAD, x.trace(0));
        }
        for (int act = 0; act <= 3; act++) {
            x.act(0, act, 6);
            check.holds("act " + act + " ran", x.count(5) > 0);
        }
    }

    /** "the first 24 are kept": no act runs as many; what ran is all kept, as it began */
    private static void trace() {
        MustDefendHim x = new MustDefendHim();
        due("no act yet", BAD, x.trace(0));
        due("no act yet", 0, x.count(5));
        x.body(5);
        x.act(0, 3, 1);
        due("the longest", 10, x.count(5));
        due("the first", 61, x.trace(0));
        due("the last", 1, x.trace(9));
        for (int i : new int[] {Integer.MIN_VALUE, -1, 10, 11, 23, 24, Integer.MAX_VALUE}) {
            due("trace " + i, BAD, x.trace(i));
        }
        x.act(0, 0, 1);
        due("the latest alone", 1, x.trace(0));
        due("nothing is left of the one ahead", BAD, x.trace(1));
    }

    /** "A SHELF holds nothing (body -1), or a BODY: 1. BAD." */
    private static void keep() {
        MustDefendHim x = new MustDefendHim();
        x.body(3);
        x.body(4);
        check.range("shelf", 0, 5, BAD, v -> x.keep(v, 0));
        check.range("shelf of nothing", 0, 5, BAD, v -> x.keep(v, -1));
        check.range("body", -1, 1, BAD, v -> x.keep(0, v));
        due("the last that was let", 4, x.taken(0, 0));
        due("nothing", 1, x.keep(0, -1));
        due("nothing is there", -11, x.taken(0, 0));
        due("nothing again", 1, x.keep(0, -1));
        due("a body on two shelves", 1, x.keep(1, 0));
        due("a body on two shelves", 1, x.keep(2, 0));
        due("here", 3, x.taken(1, 3));
        due("there", 3, x.taken(2, 3));
    }

    /** "taken for a BODY of KIND k (0 .. 7), or under it: its KIND. BAD, -11, -12." */
    private static void taken() {
        MustDefendHim x = new MustDefendHim();
        for (int kind = 0; kind <= 7; kind++) {
            x.body(kind);
            x.keep(0, kind);
            for (int k = 0; k <= 7; k++) {
                boolean under = made(k, 0).getClass().isInstance(made(kind, 0));
                due(kind + " for " + k, under ? kind : -12, x.taken(0, k));
            }
        }
        x.keep(5, 0);
        for (int shelf = 1; shelf <= 4; shelf++) {
            x.keep(shelf, 0);
        }
        check.range("shelf", 0, 5, BAD, v -> x.taken(v, 0));
        check.range("kind", 0, 7, BAD, v -> x.taken(0, v));
        x.keep(0, -1);
        due("nothing", -11, x.taken(0, 0));
        due("nothing, and no kind", BAD, x.taken(0, 8));
        for (int sort = 0; sort <= 4; sort++) {
            x.row(0, sort, 0);
            due("a row", -12, x.taken(0, 0));
        }
    }

    /** "How many: 0 PEOPLE, 1 that are BOUND, .. 5 bodies that ran in the latest act(). BAD." */
    private static void counts() {
        MustDefendHim x = new MustDefendHim();
        check.range("what", 0, 5, BAD, v -> x.count(v));
        for (int i = 0; i < 7; i++) {
            x.person(0, 0);
        }
        for (int i = 0; i < 6; i++) {
            x.hold(10 * i + i + 1, 0);
        }
        for (int i = 0; i < 121; i++) {
            x.feed('0');
        }
        for (int i = 0; i < 41; i++) {
            x.mend(0, 3, 10 + i);
        }
        for (int i = 0; i < 51; i++) {
            x.body(5);
        }
        x.act(49, 3, 1);
        int[] most = {7, 6, 120, 40, 50, 10};
        for (int what = 0; what <= 5; what++) {
            due("at its most " + what, most[what], x.count(what));
        }
        x.undo();
        due("one less may be undone", 39, x.count(3));
        x.redo();
        due("one more", 40, x.count(3));
        x.law();
        due("no bytes", 0, x.count(2));
        x.year();
        due("none is bound", 0, x.count(1));
    }
}
