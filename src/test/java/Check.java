/** What the tests share: counting answers that are not as due, and short ways to set a court up. */
final class Check {
    /** Asks something of a court by one number. */
    interface Ask {
        long by(int v);
    }

    /** One call on a court. */
    interface Call {
        long on(MustDefendHim x);
    }

    private final String name;
    private int asked = 0;
    private int wrong = 0;

    Check(String name) {
        this.name = name;
    }

    void due(String call, long want, long got) {
        asked++;
        if (got != want) {
            wrong++;
            System.out.println(name + ": " + call + " answered " + got + ", due is " + want);
        }
    }

    void holds(String what, boolean so) {
        due(what, 1, so ? 1 : 0);
    }

    /** Of lowest .. highest: these and what lies beside them; below and above it is refused. */
    void range(String what, int lowest, int highest, long refusal, Ask ask) {
        for (int v : new int[] {Integer.MIN_VALUE, lowest - 1, highest + 1, Integer.MAX_VALUE}) {
            due(what + " " + v, refusal, ask.by(v));
        }
        for (int v : new int[] {lowest, lowest + 1, highest - 1, highest}) {
            holds(what + " " + v + " is let", ask.by(v) != refusal);
        }
    }

    void end() {
        System.out.println(name + ": " + asked + " answers, " + wrong + " not as due");
        if (wrong != 0) {
            System.exit(1);
        }
    }

    /** People by twos: sharp, kind. */
    static MustDefendHim court(int... sharpKind) {
        MustDefendHim x = new MustDefendHim();
        for (int i = 0; i + 1 < sharpKind.length; i += 2) {
            x.person(sharpKind[i], sharpKind[i + 1]);
        }
        return x;
    }

    static int law(MustDefendHim x, String text) {
        for (int i = 0; i < text.length(); i++) {
            x.feed(text.charAt(i));
        }
        return x.law();
    }

    static void bytes(MustDefendHim x, int shelf, int... values) {
        x.row(shelf, 0, values.length);
        for (int i = 0; i < values.length; i++) {
            x.put(shelf, i, values[i]);
        }
    }
}
