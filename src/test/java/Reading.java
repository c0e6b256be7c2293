/**
 * All that can be asked of a court, as one text: courts that are read alike stand alike. To read is
 * to use the court up: what was done is undone, the tape becomes the law, the image is laid back.
 */
final class Reading {
    private static final int CALLS = 512;
    private static final long SOME_BITS = 0x123456789ABCDEF0L;

    private final MustDefendHim x;
    private final StringBuilder text = new StringBuilder();
    private int asked = 0;

    private Reading(MustDefendHim x) {
        this.x = x;
    }

    /** What a court tells that has had so many calls: of one with more than 512 nothing is promised. */
    static String of(MustDefendHim x, int callsAhead) {
        Reading r = new Reading(x);
        r.counts();
        r.deeds();
        r.people();
        r.law();
        r.shelves();
        r.changes();
        r.tape();
        r.image();
        if (callsAhead + r.asked > CALLS) {
            throw new IllegalStateException(callsAhead + " and " + r.asked + " calls");
        }
        return r.text.toString();
    }

    private long tell(long answer) {
        asked++;
        text.append(answer).append(' ');
        return answer;
    }

    private void part(String name) {
        text.append('\n').append(name).append(": ");
    }

    private void counts() {
        part("counts");
        for (int what = 0; what <= 5; what++) {
            tell(x.count(what));
        }
        part("trace");
        for (int i = 0; tell(x.trace(i)) != MustDefendHim.BAD; i++) {
            text.append(' ');
        }
    }

    private void deeds() {
        part("led");
        for (int what = 0; what <= 4; what++) {
            tell(x.led(what));
        }
    }

    private int many() {
        asked++;
        return x.count(0);
    }

    private void people() {
        int many = many();
        for (int one = 0; one < many; one++) {
            part("person " + one);
            for (int what = 0; what <= 4; what++) {
                tell(x.of(one, what));
            }
        }
    }

    private void law() {
        int many = many();
        part("wins");
        for (int a = 0; a < many; a++) {
            for (int b = 0; b < many; b++) {
                if (a != b) {
                    tell(x.wins(10 * a + b, 0));
                }
            }
        }
    }

    private void shelves() {
        for (int shelf = 0; shelf <= 5; shelf++) {
            part("shelf " + shelf);
            tell(x.taken(shelf, 0));
            boolean any = false;
            for (int i = 0; tell(x.element(shelf, i)) != Long.MIN_VALUE; i++) {
                any = true;
            }
            if (any) {
                x.put(shelf, 0, SOME_BITS);
                asked++;
                tell(x.element(shelf, 0));
            } else {
                tell(x.charges(shelf, 2));
            }
        }
    }

    /** Each change forth and back; of each the number that it told. */
    private void changes() {
        part("redo");
        for (int i = 0; tell(x.redo()) != MustDefendHim.STATE; i++) {
            tell(x.of(i % 4, 3));
        }
        part("undo");
        for (int i = 0; tell(x.undo()) != MustDefendHim.STATE; i++) {
            tell(x.of(i % 4, 3));
        }
        people();
    }

    private void tape() {
        part("tape");
        tell(x.law());
        tell(x.wins(1, 0));
        tell(x.wins(10, 0));
    }

    private void image() {
        part("image");
        if (tell(x.back()) != MustDefendHim.STATE) {
            deeds();
            int many = many();
            for (int one = 0; one < many; one++) {
                tell(x.of(one, 4));
            }
            tell(x.wins(1, 0));
        }
    }
}
