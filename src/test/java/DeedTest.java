/** Promises 24 to 29: cases in deed, releases, years, what is led, an image. */
public final class DeedTest {
    private static final Check check = new Check("DeedTest");
    private static final int VOID = MustDefendHim.VOID;

    private static void due(String call, long want, long got) {
        check.due(call, want, got);
    }

    public static void main(String[] args) {
        hold();
        bonds();
        releaseAndYear();
        led();
        image();
        check.end();
    }

    private static void bound(MustDefendHim x, int... to) {
        for (int i = 0; i < to.length; i++) {
            due("bound " + i, to[i], x.of(i, 4));
        }
    }

    private static void hold() {
        MustDefendHim x = Check.court(1, 1, 1, 1, 1, 1);
        due("end", -1, x.hold(1, 2));
        due("end", -1, x.hold(1, -1));
        due("alike", -1, x.hold(11, 0));
        due("nobody", -1, x.hold(3, 0));
        due("nobody", -1, x.hold(30, 0));
        due("below 0", -1, x.hold(-1, 0));
        due("none was heard", 0, x.led(0));
        due("lost", 1, x.hold(1, 0));
        due("not let", -5, x.hold(1, 1));
        due("not let", -5, x.hold(2, 1));
        due("bad ahead of state", -1, x.hold(1, 2));
        due("one was heard", 1, x.led(0));
        Check.law(x, "12");
        due("an end without a twelfth", 2, x.hold(12, 0));
        bound(x, 1, 2, -1);
    }

    private static void bonds() {
        MustDefendHim x = Check.court(1, 1, 1, 1, 1, 1, 1, 1);
        x.hold(1, 0);
        due("0 speaks for 1", 0, x.hold(21, 0));
        bound(x, -1, -1, 1, -1);
        due("2 speaks for 1 and loses", 2, x.hold(1, 1));
        bound(x, -1, -1, 2, -1);
        due("2 speaks for itself, bound to itself", 2, x.hold(2, 1));
        bound(x, -1, -1, -1, -1);
        x.hold(21, 0);
        x.hold(10, 0);
        bound(x, -1, 0, 1, -1);
        due("1 is charged: 2 speaks and loses; 1 is free", 2, x.hold(31, 1));
        bound(x, -1, -1, 2, -1);
        due("2 is charged: it speaks and wins", 2, x.hold(2, 0));
        bound(x, 2, -1, -1, -1);
        due("bound ones of least number speak: 0", 0, x.hold(12, 0));
        bound(x, -1, 2, -1, -1);
        x.hold(31, 0);
        bound(x, -1, -1, -1, 1);
        due("b spoke for itself and is free of another", 3, x.hold(3, 1));
        bound(x, -1, -1, -1, -1);
        x.hold(30, 0);
        due("b spoke for itself, wins, and is free", 3, x.hold(13, 0));
        bound(x, -1, 3, -1, -1);
    }

    private static void releaseAndYear() {
        MustDefendHim x = Check.court(1, 1, 1, 1, 1, 1);
        x.hold(1, 0);
        x.hold(20, 0);
        due("bound", 1, x.count(1));
        due("was bound", 0, x.release(2));
        due("was free", -1, x.release(2));
        due("nobody", VOID, x.release(3));
        due("nobody", VOID, x.release(-1));
        due("releases", 2, x.led(3));
        x.hold(1, 0);
        x.hold(12, 0);
        due("count", 2, x.count(1));
        due("were bound", 2, x.year());
        bound(x, -1, -1, -1);
        due("were bound", 0, x.year());
        due("years", 2, x.led(2));
        due("cases stay led", 4, x.led(0));
        Check.law(x, "n");
        due("no cases ahead", 0, x.wins(1, 0));
    }

    private static void led() {
        MustDefendHim x = Check.court(1, 1, 1, 1, 1, 1);
        x.mend(0, 3, 10);
        x.mend(1, 3, 30);
        x.hold(1, 1);
        due("fees: 1 paid", 30, x.led(4));
        x.hold(1, 0);
        due("fees: 0 paid", 40, x.led(4));
        x.hold(21, 1);
        due("fees: 1 paid, not 0 who spoke", 70, x.led(4));
        due("cases", 3, x.led(0));
        due("won", 2, x.led(1));
        due("what", -1, x.led(5));
        due("what", -1, x.led(-1));
    }

    private static void image() {
        MustDefendHim x = Check.court(1, 1, 1, 1);
        Check.law(x, "n");
        due("none", -5, x.back());
        x.hold(1, 1);
        x.hold(1, 0);
        x.release(1);
        due("image", 2, x.image());
        x.year();
        x.person(2, 2);
        x.mend(0, 0, 9);
        x.hold(20, 0);
        x.hold(12, 1);
        x.release(0);
        due("none ahead but two", 2, x.wins(1, 0));
        due("cases", 4, x.led(0));
        due("back", 2, x.back());
        bound(x, 1, -1, -1);
        due("cases ahead", 2, x.wins(1, 0));
        due("cases", 2, x.led(0));
        due("won", 1, x.led(1));
        due("years", 0, x.led(2));
        due("releases", 1, x.led(3));
        due("fees", 10, x.led(4));
        due("people stay", 3, x.count(0));
        due("what was mended stays", 9, x.of(0, 0));
        due("changes stay", 1, x.count(3));
        x.year();
        due("back again", 2, x.back());
        bound(x, 1, -1, -1);
        x.year();
        due("all cases, not those of the year alone", 2, x.image());
        x.hold(1, 1);
        due("back", 2, x.back());
        due("none ahead", 0, x.wins(1, 0));
    }
}
