import java.util.ArrayDeque;
import java.util.ArrayList;
import java.util.Collections;
import java.util.Deque;
import java.util.HashSet;
import java.util.List;
import java.util.Set;

/**
 * The document a second time, by other means and with the whole Java library, so that ModelTest
 * can lay the class beside it. It leans on what the machine throws where the document speaks of
 * the host's refusals.
 */
final class Model {
    static final int BAD = -1, NOT = -2, FULL = -3, STATE = -5, VOID = -2000000000;
    private static final int[] HIGHEST = {9, 9, 6, 99};

    static final class Bonds {
        final List<Integer> bound = new ArrayList<>();
        int ahead;

        Bonds copy() {
            Bonds c = new Bonds();
            c.bound.addAll(bound);
            c.ahead = ahead;
            return c;
        }

        int speaker(int b) {
            int found = bound.indexOf(b);
            return found < 0 ? b : found;
        }

        int many() {
            return bound.size() - Collections.frequency(bound, -1);
        }

        Bonds after(int a, int b, int end) {
            Bonds c = copy();
            int s = speaker(b);
            if (end == 1) {
                if (s != b) {
                    c.bound.set(s, s);
                }
                c.bound.set(b, -1);
            } else {
                c.bound.set(s, -1);
                c.bound.set(a, b);
            }
            c.ahead++;
            return c;
        }
    }

    private final List<int[]> people = new ArrayList<>();
    private Bonds now = new Bonds();
    private int[] led = new int[5];
    private Bonds image;
    private int[] imageLed;
    private String tape = "";
    private String law;
    private final Deque<int[]> done = new ArrayDeque<>();
    private final Deque<int[]> undone = new ArrayDeque<>();
    private final Object[] shelves = new Object[6];
    private final List<Case> bodies = new ArrayList<>();
    private final List<Integer> ran = new ArrayList<>();

    Bonds bonds() {
        return now.copy();
    }

    private boolean is(int one) {
        return one >= 0 && one < people.size();
    }

    private boolean pair(int ab) {
        return ab >= 0 && is(ab / 10) && is(ab % 10) && ab / 10 != ab % 10;
    }

    private static boolean in(int v, int low, int high) {
        return v >= low && v <= high;
    }

    // ---- people

    int person(int sharp, int kind) {
        if (!in(sharp, 0, 9) || !in(kind, 0, 9)) {
            return BAD;
        }
        return come(sharp, kind, people.size()) ? people.size() - 1 : FULL;
    }

    private boolean come(int sharp, int kind, int hates) {
        if (people.size() == 7) {
            return false;
        }
        people.add(new int[] {sharp, kind, hates, 5});
        now.bound.add(-1);
        return true;
    }

    int people(int shelf, int i, int n) {
        if (!in(shelf, 0, 5) || !in(n, 1, 7)) {
            return BAD;
        }
        if (shelves[shelf] != null && !(shelves[shelf] instanceof byte[])) {
            return -12;
        }
        byte[] row = (byte[]) shelves[shelf];
        int came = 0;
        try {
            for (int k = 0; k < n; k++) {
                int at = Math.addExact(i, 3 * k);
                int s = row[at];
                int kind = row[Math.addExact(at, 1)];
                int h = row[Math.addExact(at, 2)];
                if (!in(s, 0, 9) || !in(kind, 0, 9) || !in(h, 0, 6) || !come(s, kind, h)) {
                    return came;
                }
                came++;
            }
        } catch (NullPointerException | IndexOutOfBoundsException | ArithmeticException e) {
            return came;
        }
        return came;
    }

    int mend(int number, int what, int v) {
        if (!is(number) || !in(what, 0, 3) || !in(v, 0, HIGHEST[what])) {
            return BAD;
        }
        int was = people.get(number)[what];
        if (was != v) {
            people.get(number)[what] = v;
            done.addLast(new int[] {number, what, was, v});
            undone.clear();
            if (done.size() > 40) {
                done.removeFirst();
            }
        }
        return was;
    }

    int of(int number, int what) {
        if (!is(number) || !in(what, 0, 4)) {
            return VOID;
        }
        return what == 4 ? now.bound.get(number) : people.get(number)[what];
    }

    int feed(int letter) {
        if (!in(letter, 0, 255)) {
            return BAD;
        }
        if (tape.length() == 120) {
            return FULL;
        }
        tape += (char) letter;
        return tape.length();
    }

    int law() {
        String text = tape;
        tape = "";
        int fault = fault(text);
        if (fault >= 0) {
            return -100 - fault;
        }
        law = text;
        return 1;
    }

    /** By a run over the bytes with what is open: ( for a bracket, ! for either sign ahead. */
    static int fault(String text) {
        String open = "";
        boolean wants = true;
        int digits = 0;
        boolean asked = false;
        Deque<Boolean> compared = new ArrayDeque<>(List.of(false));
        for (int i = 0; i < text.length(); i++) {
            char c = text.charAt(i);
            boolean digit = c >= '0' && c <= '9';
            if (wants) {
                if (digit || "adohbn".indexOf(c) >= 0) {
                    digits = digit ? 1 : 9;
                    wants = false;
                    open = closeSigns(open);
                } else if ("(!-".indexOf(c) >= 0 && open.length() < 6) {
                    open += c == '(' ? '(' : '!';
                    if (c == '(') {
                        compared.push(false);
                    }
                } else {
                    return i;
                }
                continue;
            }
            if (digit) {
                if (++digits > 4) {
                    return i;
                }
                continue;
            }
            digits = 9;
            wants = true;
            if (c == ')' && !open.isEmpty()) {
                open = closeSigns(open.substring(0, open.length() - 1));
                compared.pop();
                wants = false;
            } else if ("<=>".indexOf(c) >= 0 && !compared.peek()) {
                compared.pop();
                compared.push(true);
            } else if (c == '&' || c == '|') {
                compared.pop();
                compared.push(false);
            } else if (c == '?' && open.isEmpty() && !asked || c == ';' && open.isEmpty()) {
                asked = c == '?';
                compared.pop();
                compared.push(false);
            } else if ("+-*/%".indexOf(c) < 0) {
                return i;
            }
        }
        return wants || !open.isEmpty() ? text.length() : -1;
    }

    private static String closeSigns(String open) {
        int end = open.length();
        while (end > 0 && open.charAt(end - 1) == '!') {
            end--;
        }
        return open.substring(0, end);
    }

    private static int worth(String text, int[] names) {
        for (String line : text.split(";")) {
            int q = line.indexOf('?');
            if (q < 0) {
                return value(line, names);
            }
            if (value(line.substring(0, q), names) != 0) {
                return value(line.substring(q + 1), names);
            }
        }
        return 0;
    }

    /** Splits at the last of the loosest joining signs that stand outside of brackets. */
    private static int value(String e, int[] names) {
        for (String signs : List.of("|", "&", "<=>", "+-", "*/%")) {
            int deep = 0;
            for (int i = e.length() - 1; i > 0; i--) {
                char c = e.charAt(i);
                deep += c == ')' ? 1 : c == '(' ? -1 : 0;
                boolean joins = Character.isLetterOrDigit(e.charAt(i - 1)) || e.charAt(i - 1) == ')';
                if (deep == 0 && joins && signs.indexOf(c) >= 0) {
                    int l = value(e.substring(0, i), names);
                    int r = value(e.substring(i + 1), names);
                    return joined(c, l, r);
                }
            }
        }
        char c = e.charAt(0);
        if (c == '(') {
            return value(e.substring(1, e.length() - 1), names);
        }
        if (c == '!') {
            return value(e.substring(1), names) == 0 ? 1 : 0;
        }
        if (c == '-') {
            return -value(e.substring(1), names);
        }
        int name = "adohbn".indexOf(c);
        return name < 0 ? Integer.parseInt(e) : names[name];
    }

    private static int joined(char c, int l, int r) {
        return switch (c) {
            case '|' -> l != 0 || r != 0 ? 1 : 0;
            case '&' -> l != 0 && r != 0 ? 1 : 0;
            case '<' -> l < r ? 1 : 0;
            case '=' -> l == r ? 1 : 0;
            case '>' -> l > r ? 1 : 0;
            case '+' -> l + r;
            case '-' -> l - r;
            case '*' -> l * r;
            case '/' -> r == 0 ? 0 : l / r;
            default -> r == 0 ? 0 : l % r;
        };
    }

    // ---- in thought

    private int twelfths(Bonds s, int a, int b) {
        int who = s.speaker(b);
        return twelfths(s, a, b, people.get(who)[1], who == b ? 1 : 0);
    }

    private int twelfths(Bonds s, int a, int b, int kind, int o) {
        int[] p = people.get(a);
        int h = p[2] == b ? 1 : 0;
        int w = law == null ? 6 + p[0] + h - kind
                : worth(law, new int[] {p[0], kind, o, h, s.many(), s.ahead});
        return Math.max(0, Math.min(12, w));
    }

    int wins(int ab, int what) {
        if (!pair(ab) || !in(what, 0, 1)) {
            return BAD;
        }
        return what == 0 ? twelfths(now, ab / 10, ab % 10) : now.speaker(ab % 10);
    }

    private boolean byteRow(int shelf) {
        return in(shelf, 0, 5) && shelves[shelf] instanceof byte[];
    }

    private List<int[]> followed(int shelf, List<Bonds> states) {
        byte[] row = (byte[]) shelves[shelf];
        List<int[]> cases = new ArrayList<>();
        states.add(now);
        for (int i = 0; i + 3 <= row.length && cases.size() < 20; i += 3) {
            Bonds s = states.get(states.size() - 1);
            if (!is(row[i]) || !is(row[i + 1]) || row[i] == row[i + 1] || s.bound.get(row[i]) >= 0
                    || !in(row[i + 2], 0, 1)) {
                break;
            }
            cases.add(new int[] {row[i], row[i + 1], row[i + 2]});
            states.add(s.after(row[i], row[i + 1], row[i + 2]));
        }
        return cases;
    }

    int course(int shelf, int one) {
        if (!byteRow(shelf) || one != -1 && !is(one)) {
            return VOID;
        }
        List<Bonds> states = new ArrayList<>();
        int many = followed(shelf, states).size();
        return one == -1 ? many : states.get(many).bound.get(one);
    }

    int ends(int shelf, int one, int what) {
        if (!byteRow(shelf) || !is(one) || !in(what, 0, 1)) {
            return VOID;
        }
        List<Bonds> states = new ArrayList<>();
        List<int[]> cases = followed(shelf, states);
        int likely = 1000000;
        int[] purse = new int[7];
        for (int i = 0; i < cases.size(); i++) {
            int[] c = cases.get(i);
            int w = twelfths(states.get(i), c[0], c[1]);
            likely = likely * (c[2] == 1 ? w : 12 - w) / 12;
            int loser = c[1 - (1 - c[2])];
            int other = c[1 - c[2]];
            purse[loser] -= people.get(loser)[3];
            purse[other] += people.get(loser)[3];
        }
        return what == 0 ? likely : purse[one];
    }

    int best(int one, int what) {
        if (!is(one) || !in(what, 0, 1)) {
            return BAD;
        }
        if (now.bound.get(one) >= 0 || people.size() < 2) {
            return NOT;
        }
        int found = -1;
        for (int b = people.size() - 1; b >= 0; b--) {
            if (b != one) {
                int w = twelfths(now, one, b);
                int f = found < 0 ? 0 : twelfths(now, one, found);
                if (found < 0 || (what == 0 ? w >= f : w <= f)) {
                    found = b;
                }
            }
        }
        return found;
    }

    long beside(int ab, int part) {
        if (!pair(ab) || !in(part, 0, 1)) {
            return Long.MIN_VALUE;
        }
        int up = now.bound.get(ab / 10) >= 0 ? 0 : 12 - twelfths(now, ab / 10, ab % 10);
        int g = up;
        int h = 12;
        while (g != 0) {
            int t = h % g;
            h = g;
            g = t;
        }
        return (part == 0 ? up : 12) / h;
    }

    private int fewest(int a, int b, boolean round) {
        Set<List<Integer>> level = new HashSet<>(Set.of(now.bound));
        for (int k = 0; k <= 8; k++) {
            for (List<Integer> l : level) {
                if (round ? k > 0 && l.equals(now.bound) : l.get(a) == b) {
                    return k;
                }
            }
            Set<List<Integer>> next = new HashSet<>();
            for (List<Integer> l : level) {
                Bonds s = new Bonds();
                s.bound.addAll(l);
                s.ahead = now.ahead + k;
                for (int ab = 0; ab < 100; ab++) {
                    if (pair(ab) && l.get(ab / 10) < 0) {
                        int w = twelfths(s, ab / 10, ab % 10);
                        if (w > 0) {
                            next.add(s.after(ab / 10, ab % 10, 1).bound);
                        }
                        if (w < 12) {
                            next.add(s.after(ab / 10, ab % 10, 0).bound);
                        }
                    }
                }
            }
            level = next;
        }
        return NOT;
    }

    int tillBound(int ab) {
        if (!pair(ab)) {
            return BAD;
        }
        return people.size() > 4 ? STATE : fewest(ab / 10, ab % 10, false);
    }

    int round() {
        return people.size() > 4 ? STATE : fewest(0, 0, true);
    }

    int sure(int ab) {
        if (!pair(ab)) {
            return BAD;
        }
        if (people.size() > 4 || now.bound.get(ab / 10) >= 0) {
            return STATE;
        }
        for (int k = 1; k <= 6; k++) {
            if (within(now, ab / 10, ab % 10, k)) {
                return k;
            }
        }
        return NOT;
    }

    private boolean within(Bonds s, int a, int b, int k) {
        if (s.bound.get(a) == b) {
            return true;
        }
        if (k == 0 || s.bound.get(a) >= 0) {
            return false;
        }
        for (int c = 0; c < people.size(); c++) {
            if (c != a) {
                int w = twelfths(s, a, c);
                if ((w == 0 || within(s.after(a, c, 1), a, b, k - 1))
                        && (w == 12 || within(s.after(a, c, 0), a, b, k - 1))) {
                    return true;
                }
            }
        }
        return false;
    }

    private int refusal(int shelf) {
        return shelves[shelf] == null ? -11 : shelves[shelf] instanceof byte[] ? 0 : -12;
    }

    private List<int[]> charged(int shelf) {
        byte[] row = (byte[]) shelves[shelf];
        List<int[]> list = new ArrayList<>();
        for (int i = 0; i + 2 <= row.length && i < 20; i += 2) {
            if (!is(row[i]) || !is(row[i + 1]) || row[i] == row[i + 1]) {
                break;
            }
            list.add(new int[] {row[i], row[i + 1]});
        }
        return list;
    }

    int charges(int shelf, int what) {
        if (!in(shelf, 0, 5) || !in(what, 0, 2)) {
            return BAD;
        }
        if (refusal(shelf) < 0) {
            return refusal(shelf);
        }
        List<int[]> list = charged(shelf);
        if (what == 2) {
            return list.size();
        }
        Set<Integer> pairs = new HashSet<>();
        Set<Integer> hit = new HashSet<>();
        for (int[] c : list) {
            pairs.add(10 * c[0] + c[1]);
            hit.add(c[1]);
        }
        int never = 0;
        int rounds = 0;
        for (int a = 0; a < people.size(); a++) {
            never += hit.contains(a) ? 0 : 1 << a;
            for (int b = 0; b < people.size(); b++) {
                for (int c = 0; c < people.size(); c++) {
                    boolean unlike = a != b && b != c && a != c;
                    if (unlike && pairs.containsAll(List.of(10 * a + b, 10 * b + c, 10 * c + a))) {
                        rounds++;
                    }
                }
            }
        }
        return what == 0 ? never : rounds / 3;
    }

    int days(int shelf, int k) {
        if (!in(shelf, 0, 5) || k < -1) {
            return BAD;
        }
        if (refusal(shelf) < 0) {
            return refusal(shelf);
        }
        List<int[]> list = charged(shelf);
        int n = list.size();
        if (n > 6) {
            return STATE;
        }
        if (k >= n) {
            return NOT;
        }
        for (int d = n == 0 ? 0 : 1; d <= 6; d++) {
            int all = (int) Math.round(Math.pow(d, n));
            for (int way = 0; way < Math.max(1, all); way++) {
                int[] day = new int[n];
                int rest = way;
                for (int i = n - 1; i >= 0; i--) {
                    day[i] = rest % d;
                    rest /= d;
                }
                if (heard(list, day)) {
                    return k == -1 ? d : day[k];
                }
            }
        }
        return 99;
    }

    private static boolean heard(List<int[]> list, int[] day) {
        for (int i = 0; i < day.length; i++) {
            for (int j = 0; j < day.length; j++) {
                if (day[i] == day[j] && list.get(i)[0] == list.get(j)[1]) {
                    return false;
                }
            }
        }
        return true;
    }

    int quiet(int one, int what) {
        if (!is(one) || !in(what, 0, 1)) {
            return BAD;
        }
        int low = 12;
        int high = people.size() < 2 ? 12 : 0;
        for (int b = 0; b < people.size(); b++) {
            if (b != one) {
                low = Math.min(low, twelfths(now, one, b));
                high = Math.max(high, twelfths(now, one, b));
            }
        }
        return what == 0 ? low : now.bound.get(one) >= 0 || low + high < 12 ? 1 : 0;
    }

    private int[] told(int shelf, int at) {
        byte[] row = (byte[]) shelves[shelf];
        if (3 * at + 3 > row.length) {
            return null;
        }
        return new int[] {row[3 * at], row[3 * at + 1], row[3 * at + 2]};
    }

    private int tolds(int shelf) {
        return Math.min(16, (((byte[]) shelves[shelf]).length + 2) / 3);
    }

    private boolean let(Bonds s, int[] c) {
        return c != null && is(c[0]) && is(c[1]) && c[0] != c[1] && s.bound.get(c[0]) < 0
                && in(c[2], -1, 1);
    }

    int judge(int shelf) {
        if (!in(shelf, 0, 5)) {
            return BAD;
        }
        if (refusal(shelf) < 0) {
            return refusal(shelf);
        }
        Bonds s = now;
        for (int i = 0; i < tolds(shelf); i++) {
            int[] c = told(shelf, i);
            if (!let(s, c)) {
                return i;
            }
            int w = twelfths(s, c[0], c[1]);
            int end = c[2] == -1 ? (w >= 6 ? 1 : 0) : c[2];
            if (end == 1 ? w == 0 : w == 12) {
                return i;
            }
            s = s.after(c[0], c[1], end);
        }
        return NOT;
    }

    /** Each way that is so: its bits, its product, its first sold case. */
    private void ways(int shelf, int at, Bonds s, long[] way, int unknown, List<long[]> found) {
        if (at == tolds(shelf)) {
            found.add(way);
            return;
        }
        int[] c = told(shelf, at);
        if (!let(s, c)) {
            return;
        }
        int w = twelfths(s, c[0], c[1]);
        for (int end = 0; end < 2; end++) {
            int share = end == 1 ? w : 12 - w;
            if (c[2] == 1 - end || share == 0) {
                continue;
            }
            long[] next = way.clone();
            next[0] |= c[2] == -1 ? (long) end << unknown : 0;
            next[1] *= share;
            if (next[2] == NOT && share < 12 - share) {
                next[2] = at;
            }
            ways(shelf, at + 1, s.after(c[0], c[1], end), next, unknown + (c[2] == -1 ? 1 : 0), found);
        }
    }

    private int rollRefusal(int shelf) {
        if (refusal(shelf) < 0) {
            return refusal(shelf);
        }
        int unknown = 0;
        for (int i = 0; i < tolds(shelf); i++) {
            int[] c = told(shelf, i);
            unknown += c != null && c[2] == -1 && is(c[0]) && is(c[1]) ? 1 : 0;
        }
        return unknown > 8 ? STATE : 0;
    }

    private List<long[]> ways(int shelf) {
        List<long[]> found = new ArrayList<>();
        ways(shelf, 0, now, new long[] {0, 1, NOT}, 0, found);
        found.sort((p, q) -> p[1] != q[1] ? Long.compare(q[1], p[1]) : Long.compare(p[0], q[0]));
        return found;
    }

    int roll(int shelf, int what) {
        if (!in(shelf, 0, 5) || !in(what, 0, 1)) {
            return BAD;
        }
        if (rollRefusal(shelf) < 0) {
            return rollRefusal(shelf);
        }
        List<long[]> found = ways(shelf);
        return what == 0 ? found.size() : found.isEmpty() ? NOT : (int) found.get(0)[0];
    }

    int sold(int shelf) {
        if (!in(shelf, 0, 5)) {
            return BAD;
        }
        if (rollRefusal(shelf) < 0) {
            return rollRefusal(shelf);
        }
        List<long[]> found = ways(shelf);
        return found.isEmpty() ? NOT : (int) found.get(0)[2];
    }

    int friend(int ab, int k) {
        if (!pair(ab) || !in(k, 0, 9)) {
            return VOID;
        }
        return twelfths(now, ab / 10, ab % 10) - twelfths(now, ab / 10, ab % 10, k, 0);
    }

    int drawn(int seed, int nm, int what, int one) {
        if (nm < 0 || !in(nm / 100, 1, 30) || !in(nm % 100, 1, 60) || !in(what, 0, 2)
                || what == 1 && !is(one)) {
            return BAD;
        }
        int[] sums = new int[3];
        int z = seed;
        for (int y = 0; y < nm / 100 && people.size() > 1; y++) {
            Bonds s = now;
            for (int i = 0; i < nm % 100; i++) {
                z = z * 1103515245 + 12345;
                int a = (z >>> 4) % people.size();
                List<Integer> others = new ArrayList<>();
                for (int p = 0; p < people.size(); p++) {
                    if (p != a) {
                        others.add(p);
                    }
                }
                int b = others.get((z >>> 12) % others.size());
                if (s.bound.get(a) < 0) {
                    int end = (z >>> 20) % 12 < twelfths(s, a, b) ? 1 : 0;
                    s = s.after(a, b, end);
                    sums[0]++;
                    sums[1] += a == one ? end : 0;
                }
            }
            sums[2] += s.many();
        }
        return sums[what];
    }

    private Bonds fresh() {
        Bonds s = new Bonds();
        s.bound.addAll(Collections.nCopies(people.size(), -1));
        return s;
    }

    // ---- in deed

    int hold(int ab, int end) {
        if (!pair(ab) || !in(end, 0, 1)) {
            return BAD;
        }
        int a = ab / 10;
        int b = ab % 10;
        if (now.bound.get(a) >= 0) {
            return STATE;
        }
        int s = now.speaker(b);
        now = now.after(a, b, end);
        led[0]++;
        led[1] += end;
        led[4] += people.get(end == 1 ? b : a)[3];
        return s;
    }

    int release(int one) {
        if (!is(one)) {
            return VOID;
        }
        led[3]++;
        return now.bound.set(one, -1);
    }

    int year() {
        int were = now.many();
        now = fresh();
        led[2]++;
        return were;
    }

    int led(int what) {
        return in(what, 0, 4) ? led[what] : BAD;
    }

    int image() {
        image = now.copy();
        imageLed = led.clone();
        return led[0];
    }

    int back() {
        if (image == null) {
            return STATE;
        }
        now = image.copy();
        while (now.bound.size() < people.size()) {
            now.bound.add(-1);
        }
        led = imageLed.clone();
        return led[0];
    }

    int undo() {
        if (done.isEmpty()) {
            return STATE;
        }
        int[] c = done.removeLast();
        people.get(c[0])[c[1]] = c[2];
        undone.addLast(c);
        return done.size();
    }

    int redo() {
        if (undone.isEmpty()) {
            return STATE;
        }
        int[] c = undone.removeLast();
        people.get(c[0])[c[1]] = c[3];
        done.addLast(c);
        return undone.size();
    }

    // ---- acts, shelves: here the kinds are classes, and the machine itself finds the bodies

    interface Brings {
        int n();

        List<Integer> ran();

        default int brings(int x) {
            ran().add(1);
            return x + n();
        }
    }

    interface Tells {
        List<Integer> ran();

        int speaks(int x);

        int binds(int x);

        default int tells(int x) {
            ran().add(2);
            return speaks(x) - binds(1);
        }
    }

    static class Case implements Brings, Tells {
        int n;
        int kind;
        List<Integer> ran;

        public int n() {
            return n;
        }

        public List<Integer> ran() {
            return ran;
        }

        public int speaks(int x) {
            ran.add(10);
            return brings(x) * 2;
        }

        public int binds(int x) {
            ran.add(11);
            return x ^ n;
        }
    }

    static class Charge extends Case {
        public int brings(int x) {
            ran.add(20);
            return super.brings(x) + 3;
        }
    }

    static class Speech extends Case {
        public int speaks(int x) {
            ran.add(30);
            return -super.speaks(x);
        }
    }

    static class Friend extends Speech {
        public int binds(int x) {
            ran.add(40);
            return super.binds(x) * 3;
        }

        public int speaks(int x) {
            ran.add(41);
            return super.speaks(x + 1);
        }
    }

    static class Twice extends Charge {
        public int tells(int x) {
            ran.add(50);
            return super.tells(x) ^ 5;
        }
    }

    static class Roll extends Friend {
        public int binds(int x) {
            ran.add(60);
            return super.binds(x) - brings(2);
        }

        public int tells(int x) {
            ran.add(61);
            return super.tells(x) + 1;
        }
    }

    static class Sold extends Case {
        public int brings(int x) {
            ran.add(70);
            return super.brings(x) * 2;
        }
    }

    static class Still extends Sold {
        public int speaks(int x) {
            ran.add(80);
            return super.speaks(x) + binds(2);
        }

        public int brings(int x) {
            ran.add(81);
            return super.brings(x) - 1;
        }
    }

    private static final List<Class<?>> KINDS = List.of(Case.class, Charge.class, Speech.class,
            Friend.class, Twice.class, Roll.class, Sold.class, Still.class);

    int body(int kind) {
        if (!in(kind, 0, 7)) {
            return BAD;
        }
        if (bodies.size() == 50) {
            return FULL;
        }
        Case made = switch (kind) {
            case 0 -> new Case();
            case 1 -> new Charge();
            case 2 -> new Speech();
            case 3 -> new Friend();
            case 4 -> new Twice();
            case 5 -> new Roll();
            case 6 -> new Sold();
            default -> new Still();
        };
        made.n = bodies.size();
        made.kind = kind;
        made.ran = ran;
        bodies.add(made);
        return made.n;
    }

    int act(int body, int act, int x) {
        ran.clear();
        if (body < 0 || body >= bodies.size()) {
            return 0;
        }
        Case c = bodies.get(body);
        return switch (act) {
            case 0 -> c.brings(x);
            case 1 -> c.speaks(x);
            case 2 -> c.binds(x);
            case 3 -> c.tells(x);
            default -> 0;
        };
    }

    int trace(int i) {
        return i >= 0 && i < ran.size() && i < 24 ? ran.get(i) : BAD;
    }

    int keep(int shelf, int body) {
        if (!in(shelf, 0, 5) || !in(body, -1, bodies.size() - 1)) {
            return BAD;
        }
        shelves[shelf] = body == -1 ? null : bodies.get(body);
        return 1;
    }

    int row(int shelf, int sort, int n) {
        if (!in(shelf, 0, 5) || !in(sort, 0, 4) || n > 60) {
            return BAD;
        }
        try {
            shelves[shelf] = switch (sort) {
                case 0 -> new byte[n];
                case 1 -> new short[n];
                case 2 -> new int[n];
                case 3 -> new long[n];
                default -> new boolean[n];
            };
            return 1;
        } catch (NegativeArraySizeException e) {
            return -14;
        }
    }

    int put(int shelf, int i, long v) {
        if (!in(shelf, 0, 5)) {
            return BAD;
        }
        if (shelves[shelf] == null) {
            return -11;
        }
        try {
            if (shelves[shelf] instanceof byte[] r) {
                r[i] = (byte) v;
            } else if (shelves[shelf] instanceof short[] r) {
                r[i] = (short) v;
            } else if (shelves[shelf] instanceof int[] r) {
                r[i] = (int) v;
            } else if (shelves[shelf] instanceof long[] r) {
                r[i] = v;
            } else if (shelves[shelf] instanceof boolean[] r) {
                r[i] = v != 0;
            } else {
                return -12;
            }
            return 1;
        } catch (ArrayIndexOutOfBoundsException e) {
            return -13;
        }
    }

    long element(int shelf, int i) {
        if (!in(shelf, 0, 5) || shelves[shelf] == null || shelves[shelf] instanceof Case) {
            return Long.MIN_VALUE;
        }
        try {
            if (shelves[shelf] instanceof boolean[] r) {
                return r[i] ? 1 : 0;
            }
            return java.lang.reflect.Array.getLong(shelves[shelf], i);
        } catch (ArrayIndexOutOfBoundsException e) {
            return Long.MIN_VALUE;
        }
    }

    int shift(int shelf, int i, int other, int j, int n) {
        if (!in(shelf, 0, 5) || !in(other, 0, 5)) {
            return BAD;
        }
        try {
            System.arraycopy(shelves[shelf], i, shelves[other], j, n);
            return n;
        } catch (NullPointerException e) {
            return -11;
        } catch (ArrayStoreException e) {
            return -12;
        } catch (IndexOutOfBoundsException e) {
            return -13;
        }
    }

    int taken(int shelf, int k) {
        if (!in(shelf, 0, 5) || !in(k, 0, 7)) {
            return BAD;
        }
        if (shelves[shelf] == null) {
            return -11;
        }
        return KINDS.get(k).isInstance(shelves[shelf]) ? ((Case) shelves[shelf]).kind : -12;
    }

    int count(int what) {
        return switch (what) {
            case 0 -> people.size();
            case 1 -> now.many();
            case 2 -> tape.length();
            case 3 -> done.size();
            case 4 -> bodies.size();
            case 5 -> ran.size();
            default -> BAD;
        };
    }
}
