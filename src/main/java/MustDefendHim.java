/**
 * A court in which whoever has brought a charge and lost it must next speak for him whom he
 * charged. The promises are numbered in the document; each public method bears the name of one.
 */
public final class MustDefendHim {
    public static final int BAD = -1, NOT = -2, FULL = -3, STATE = -5, VOID = -2000000000;

    private static final int NOTHING_THERE = -11, OTHER_KIND = -12, NO_PLACE = -13, NO_SIZE = -14;
    private static final int MOST_PEOPLE = 7, FREE = -1, TWELVE = 12;
    private static final int SHARP = 0, KIND = 1, HATES = 2, FEE = 3;
    private static final int SHELVES = 6, MOST_ELEMENTS = 60, BYTES = 0;
    private static final int MOST_LETTERS = 120;
    private static final int CASES = 0, WON = 1, YEARS = 2, RELEASES = 3, FEES = 4, TOLD = 5;

    private final Folk folk = new Folk();
    private final Law rule = new Law();
    private final LawReader reader = new LawReader();
    private final Court court = new Court(folk, rule);
    private final Bench now = new Bench();
    private final Bench kept = new Bench();
    private final int[] told = new int[TOLD];
    private final int[] toldKept = new int[TOLD];
    private boolean hasImage = false;
    private final CaseReader cases = new CaseReader(court);
    private final Search search = new Search(court);
    private final Docket docket = new Docket();
    private final Draws draws = new Draws(court);
    private final Acts acts = new Acts();
    private final Shelf[] shelves = new Shelf[SHELVES];

    public MustDefendHim() {
        for (int i = 0; i < SHELVES; i++) {
            shelves[i] = new Shelf();
        }
    }

    // ---- people

    public int person(int sharp, int kind) {
        if (!Folk.allows(SHARP, sharp) || !Folk.allows(KIND, kind)) {
            return BAD;
        }
        return folk.isFull() ? FULL : folk.welcome(sharp, kind);
    }

    public int people(int shelf, int i, int n) {
        if (!isShelf(shelf) || n < 1 || n > MOST_PEOPLE) {
            return BAD;
        }
        Shelf from = shelves[shelf];
        if (from.isEmpty()) {
            return 0;
        }
        if (!from.hasBytes()) {
            return OTHER_KIND;
        }
        int came = 0;
        while (came < n && folk.welcomeFrom(from, i + 3L * came)) {
            came++;
        }
        return came;
    }

    public int mend(int number, int what, int v) {
        if (!folk.has(number) || !Folk.allows(what, v)) {
            return BAD;
        }
        return folk.change(number, what, v);
    }

    public int of(int number, int what) {
        if (!folk.has(number) || what < SHARP || what > FEE + 1) {
            return VOID;
        }
        return what > FEE ? now.boundTo(number) : folk.numberOf(number, what);
    }

    public int feed(int letter) {
        if (letter < 0 || letter > 255) {
            return BAD;
        }
        return reader.isFull() ? FULL : reader.take(letter);
    }

    public int law() {
        int fault = reader.readInto(rule);
        return fault < 0 ? 1 : -100 - fault;
    }

    // ---- in thought

    public int wins(int ab, int what) {
        if (!isPair(ab) || what < 0 || what > 1) {
            return BAD;
        }
        int a = ab / 10;
        int b = ab % 10;
        return what == 0 ? court.twelfths(now, a, b) : now.speakerFor(b);
    }

    public int course(int shelf, int one) {
        if (!isShelf(shelf) || one != -1 && !folk.has(one) || !shelves[shelf].hasBytes()) {
            return VOID;
        }
        cases.follow(shelves[shelf], now, one);
        return one == -1 ? cases.heard() : cases.boundTo(one);
    }

    public int ends(int shelf, int one, int what) {
        if (!isShelf(shelf) || !folk.has(one) || what < 0 || what > 1
                || !shelves[shelf].hasBytes()) {
            return VOID;
        }
        cases.follow(shelves[shelf], now, one);
        return what == 0 ? cases.millionths() : cases.gained();
    }

    public int best(int one, int what) {
        if (!folk.has(one) || what < 0 || what > 1) {
            return BAD;
        }
        if (!now.isFree(one) || folk.size() < 2) {
            return NOT;
        }
        return what == 0 ? court.easiest(now, one) : court.hardest(now, one);
    }

    public long beside(int ab, int part) {
        if (!isPair(ab) || part < 0 || part > 1) {
            return Long.MIN_VALUE;
        }
        int a = ab / 10;
        int losing = now.isFree(a) ? TWELVE - court.twelfths(now, a, ab % 10) : 0;
        int common = commonDivisor(losing);
        return part == 0 ? losing / common : TWELVE / common;
    }

    public int tillBound(int ab) {
        if (!isPair(ab)) {
            return BAD;
        }
        if (folk.size() > Search.MOST_SEARCHED) {
            return STATE;
        }
        return search.fewestTillBound(now, ab / 10, ab % 10);
    }

    public int round() {
        return folk.size() > Search.MOST_SEARCHED ? STATE : search.fewestRound(now);
    }

    public int sure(int ab) {
        if (!isPair(ab)) {
            return BAD;
        }
        int a = ab / 10;
        if (folk.size() > Search.MOST_SEARCHED || !now.isFree(a)) {
            return STATE;
        }
        return search.fewestSure(now, a, ab % 10);
    }

    public int charges(int shelf, int what) {
        if (!isShelf(shelf) || what < 0 || what > 2) {
            return BAD;
        }
        int refusal = shelves[shelf].refusalOfBytes();
        if (refusal < 0) {
            return refusal;
        }
        docket.read(shelves[shelf], folk);
        if (what == 0) {
            return docket.neverCharged(folk);
        }
        return what == 1 ? docket.threes() : docket.size();
    }

    public int days(int shelf, int k) {
        if (!isShelf(shelf) || k < -1) {
            return BAD;
        }
        int refusal = shelves[shelf].refusalOfBytes();
        if (refusal < 0) {
            return refusal;
        }
        docket.read(shelves[shelf], folk);
        if (docket.size() > Docket.MOST_DEALT) {
            return STATE;
        }
        if (k >= docket.size()) {
            return NOT;
        }
        int fewest = docket.dealDays();
        return k == -1 ? fewest : docket.dayOf(k);
    }

    public int quiet(int one, int what) {
        if (!folk.has(one) || what < 0 || what > 1) {
            return BAD;
        }
        boolean alone = folk.size() < 2;
        int worst = alone ? TWELVE : court.twelfths(now, one, court.hardest(now, one));
        if (what == 0) {
            return worst;
        }
        int finest = alone ? TWELVE : court.twelfths(now, one, court.easiest(now, one));
        return !now.isFree(one) || worst + finest < TWELVE ? 1 : 0;
    }

    public int judge(int shelf) {
        if (!isShelf(shelf)) {
            return BAD;
        }
        int refusal = shelves[shelf].refusalOfBytes();
        return refusal < 0 ? refusal : cases.firstWrong(shelves[shelf], now);
    }

    public int roll(int shelf, int what) {
        if (!isShelf(shelf) || what < 0 || what > 1) {
            return BAD;
        }
        int refusal = refusalOfRoll(shelf);
        if (refusal < 0) {
            return refusal;
        }
        cases.weighWays(shelves[shelf], now);
        return what == 0 ? cases.ways() : cases.likeliestWay();
    }

    public int sold(int shelf) {
        if (!isShelf(shelf)) {
            return BAD;
        }
        int refusal = refusalOfRoll(shelf);
        if (refusal < 0) {
            return refusal;
        }
        cases.weighWays(shelves[shelf], now);
        return cases.firstSold(shelves[shelf], now);
    }

    public int friend(int ab, int k) {
        if (!isPair(ab) || !Folk.allows(KIND, k)) {
            return VOID;
        }
        int a = ab / 10;
        int b = ab % 10;
        return court.twelfths(now, a, b) - court.twelfthsAgainst(now, a, b, k, false);
    }

    public int drawn(int seed, int nm, int what, int one) {
        int years = nm / 100;
        int each = nm % 100;
        if (years < 1 || years > 30 || each < 1 || each > 60 || what < 0 || what > 2
                || what == 1 && !folk.has(one)) {
            return BAD;
        }
        draws.pass(now, seed, years, each, one);
        if (what == 0) {
            return draws.heard();
        }
        return what == 1 ? draws.wonByOne() : draws.boundAtEnds();
    }

    // ---- in deed

    public int hold(int ab, int end) {
        if (!isPair(ab) || end < 0 || end > 1) {
            return BAD;
        }
        int a = ab / 10;
        int b = ab % 10;
        if (!now.isFree(a)) {
            return STATE;
        }
        int speaker = now.speakerFor(b);
        now.settle(a, b, end == 1);
        told[CASES]++;
        told[WON] += end;
        told[FEES] += folk.numberOf(end == 1 ? b : a, FEE);
        return speaker;
    }

    public int release(int one) {
        if (!folk.has(one)) {
            return VOID;
        }
        int was = now.boundTo(one);
        now.setFree(one);
        told[RELEASES]++;
        return was;
    }

    public int year() {
        int were = now.howManyBound();
        now.beginYear();
        told[YEARS]++;
        return were;
    }

    public int led(int what) {
        return what < 0 || what >= TOLD ? BAD : told[what];
    }

    public int image() {
        kept.copyFrom(now);
        System.arraycopy(told, 0, toldKept, 0, TOLD);
        hasImage = true;
        return told[CASES];
    }

    public int back() {
        if (!hasImage) {
            return STATE;
        }
        now.copyFrom(kept);
        System.arraycopy(toldKept, 0, told, 0, TOLD);
        return told[CASES];
    }

    public int undo() {
        return folk.undoable() == 0 ? STATE : folk.stepBack();
    }

    public int redo() {
        return folk.redoable() == 0 ? STATE : folk.stepAgain();
    }

    // ---- acts, shelves

    public int body(int kind) {
        if (!Acts.isKind(kind)) {
            return BAD;
        }
        return acts.isFull() ? FULL : acts.make(kind);
    }

    public int act(int body, int act, int x) {
        return acts.perform(body, act, x);
    }

    public int trace(int i) {
        return i < 0 || i >= acts.traced() ? BAD : acts.tracedAt(i);
    }

    public int keep(int shelf, int body) {
        if (!isShelf(shelf) || body != -1 && !acts.has(body)) {
            return BAD;
        }
        if (body == -1) {
            shelves[shelf].clear();
        } else {
            shelves[shelf].holdBody(body);
        }
        return 1;
    }

    public int row(int shelf, int sort, int n) {
        if (!isShelf(shelf) || !Shelf.isSort(sort) || n > MOST_ELEMENTS) {
            return BAD;
        }
        if (n < 0) {
            return NO_SIZE;
        }
        shelves[shelf].holdRow(sort, n);
        return 1;
    }

    public int put(int shelf, int i, long v) {
        if (!isShelf(shelf)) {
            return BAD;
        }
        int refusal = shelves[shelf].refusalOfPlace(i);
        if (refusal < 0) {
            return refusal;
        }
        shelves[shelf].set(i, v);
        return 1;
    }

    public long element(int shelf, int i) {
        if (!isShelf(shelf) || shelves[shelf].refusalOfPlace(i) < 0) {
            return Long.MIN_VALUE;
        }
        return shelves[shelf].get(i);
    }

    public int shift(int shelf, int i, int other, int j, int n) {
        if (!isShelf(shelf) || !isShelf(other)) {
            return BAD;
        }
        Shelf from = shelves[shelf];
        Shelf to = shelves[other];
        if (from.isEmpty() || to.isEmpty()) {
            return NOTHING_THERE;
        }
        if (!from.isLike(to)) {
            return OTHER_KIND;
        }
        if (!from.hasPart(i, n) || !to.hasPart(j, n)) {
            return NO_PLACE;
        }
        from.copyPart(i, to, j, n);
        return n;
    }

    public int taken(int shelf, int k) {
        if (!isShelf(shelf) || !Acts.isKind(k)) {
            return BAD;
        }
        if (shelves[shelf].isEmpty()) {
            return NOTHING_THERE;
        }
        int kind = acts.kindOf(shelves[shelf].heldBody());
        return Acts.isUnder(kind, k) ? kind : OTHER_KIND;
    }

    public int count(int what) {
        switch (what) {
            case 0: return folk.size();
            case 1: return now.howManyBound();
            case 2: return reader.letters();
            case 3: return folk.undoable();
            case 4: return acts.size();
            case 5: return acts.ran();
            default: return BAD;
        }
    }

    private static boolean isShelf(int shelf) {
        return shelf >= 0 && shelf < SHELVES;
    }

    private boolean isPair(int ab) {
        return ab >= 0 && folk.areUnlike(ab / 10, ab % 10);
    }

    private int refusalOfRoll(int shelf) {
        int refusal = shelves[shelf].refusalOfBytes();
        if (refusal < 0) {
            return refusal;
        }
        return cases.countUnknown(shelves[shelf]) > CaseReader.MOST_UNKNOWN ? STATE : 0;
    }

    /** The greatest number that divides both twelve and part (0 .. 12). */
    private static int commonDivisor(int part) {
        for (int d = TWELVE; d > 1; d--) {
            if (part % d == 0 && TWELVE % d == 0) {
                return d;
            }
        }
        return 1;
    }

    /** The people with their numbers, and the changes of these that may be undone or done again. */
    private static final class Folk {
        private static final int NUMBERS = 4, FIRST_FEE = 5, MOST_CHANGES = 40;
        private static final int[] HIGHEST = {9, 9, 6, 99};

        private final int[] numbers = new int[NUMBERS * MOST_PEOPLE];
        private int size = 0;
        private final int[] places = new int[MOST_CHANGES];
        private final int[] before = new int[MOST_CHANGES];
        private final int[] after = new int[MOST_CHANGES];
        private int done = 0;
        private int undone = 0;

        static boolean allows(int what, int v) {
            return what >= 0 && what < NUMBERS && v >= 0 && v <= HIGHEST[what];
        }

        int size() {
            return size;
        }

        boolean has(int one) {
            return one >= 0 && one < size;
        }

        boolean areUnlike(int a, int b) {
            return has(a) && has(b) && a != b;
        }

        boolean isFull() {
            return size >= MOST_PEOPLE;
        }

        // asks nothing further: of all chains of calls the deepest one, tillBound(), ends here
        int numberOf(int one, int what) {
            boolean isThere = one >= 0 && one < size && what >= 0 && what < NUMBERS;
            return isThere ? numbers[NUMBERS * one + what] : 0;
        }

        int welcome(int sharp, int kind) {
            return isFull() ? FULL : add(sharp, kind, size);
        }

        /** One from three bytes of a row; false: no such places, not as it may be, or no room. */
        boolean welcomeFrom(Shelf row, long place) {
            if (isFull() || place < 0 || place + 3 > row.size()) {
                return false;
            }
            int at = (int) place;
            int sharp = row.getInt(at);
            int kind = row.getInt(at + 1);
            int hates = row.getInt(at + 2);
            if (!allows(SHARP, sharp) || !allows(KIND, kind) || !allows(HATES, hates)) {
                return false;
            }
            add(sharp, kind, hates);
            return true;
        }

        private int add(int sharp, int kind, int hates) {
            int at = NUMBERS * size;
            numbers[at + SHARP] = sharp;
            numbers[at + KIND] = kind;
            numbers[at + HATES] = hates;
            numbers[at + FEE] = FIRST_FEE;
            size++;
            return size - 1;
        }

        int change(int one, int what, int v) {
            int was = numberOf(one, what);
            if (has(one) && allows(what, v) && v != was) {
                noteChange(NUMBERS * one + what, was, v);
                numbers[NUMBERS * one + what] = v;
            }
            return was;
        }

        private void noteChange(int place, int was, int v) {
            if (done >= MOST_CHANGES) {
                dropOldest(places);
                dropOldest(before);
                dropOldest(after);
                done = MOST_CHANGES - 1;
            }
            places[done] = place;
            before[done] = was;
            after[done] = v;
            done++;
            undone = 0;
        }

        private static void dropOldest(int[] kept) {
            System.arraycopy(kept, 1, kept, 0, MOST_CHANGES - 1);
        }

        int undoable() {
            return done;
        }

        int redoable() {
            return undone;
        }

        int stepBack() {
            if (done > 0) {
                done--;
                undone++;
                numbers[places[done]] = before[done];
            }
            return done;
        }

        int stepAgain() {
            if (undone > 0 && done < MOST_CHANGES) {
                numbers[places[done]] = after[done];
                done++;
                undone--;
            }
            return undone;
        }
    }

    /** Who is bound to whom and how many cases were heard in this year: in deed, or in thought. */
    private static final class Bench {
        private final int[] bound = new int[MOST_PEOPLE];
        private int ahead = 0;

        Bench() {
            for (int i = 0; i < MOST_PEOPLE; i++) {
                bound[i] = FREE;
            }
        }

        private static boolean isSeat(int one) {
            return one >= 0 && one < MOST_PEOPLE;
        }

        int boundTo(int one) {
            return isSeat(one) ? bound[one] : FREE;
        }

        boolean isFree(int one) {
            return isSeat(one) && bound[one] == FREE;
        }

        int casesAhead() {
            return ahead;
        }

        int howManyBound() {
            int many = 0;
            for (int i = 0; i < MOST_PEOPLE; i++) {
                if (bound[i] != FREE) {
                    many++;
                }
            }
            return many;
        }

        int speakerFor(int b) {
            for (int i = 0; i < MOST_PEOPLE; i++) {
                if (bound[i] == b) {
                    return i;
                }
            }
            return b;
        }

        void setFree(int one) {
            if (isSeat(one)) {
                bound[one] = FREE;
            }
        }

        void settle(int a, int b, boolean won) {
            if (!isSeat(a) || !isSeat(b)) {
                return;
            }
            int speaker = speakerFor(b);
            if (won) {
                // b last: when b spoke for itself, it is to be free and not bound to itself
                bound[speaker] = speaker;
                bound[b] = FREE;
            } else {
                bound[speaker] = FREE;
                bound[a] = b;
            }
            ahead++;
        }

        void beginYear() {
            for (int i = 0; i < MOST_PEOPLE; i++) {
                bound[i] = FREE;
            }
            ahead = 0;
        }

        void copyFrom(Bench other) {
            System.arraycopy(other.bound, 0, bound, 0, MOST_PEOPLE);
            ahead = other.ahead;
        }

        /** The bonds of the first few as one number, by which a search tells benches apart. */
        int toCode() {
            int code = 0;
            for (int i = Search.MOST_SEARCHED - 1; i >= 0; i--) {
                code = code * Search.STATES_OF_ONE + bound[i] + 1;
            }
            return code;
        }

        void fromCode(int code, int casesAhead) {
            beginYear();
            int rest = code;
            for (int i = 0; i < Search.MOST_SEARCHED; i++) {
                bound[i] = rest % Search.STATES_OF_ONE - 1;
                rest = rest / Search.STATES_OF_ONE;
            }
            ahead = casesAhead;
        }
    }

    /** The law as steps, each over the values of earlier ones: no text is read again for a case. */
    private static final class Law {
        // Beside these, each sign of the text is its own step.
        static final char NUMBER = '0', NAME = 'a', MINUS = '_', UNLESS = '?', END = ';';
        static final int NO_STEP = -1;
        private static final int MOST_STEPS = 2 * MOST_LETTERS + 2;

        private final char[] steps = new char[MOST_STEPS];
        private final int[] lefts = new int[MOST_STEPS];
        private final int[] rights = new int[MOST_STEPS];
        private final int[] values = new int[MOST_STEPS];
        private int size = 0;

        void clear() {
            size = 0;
        }

        boolean isTold() {
            return size > 0;
        }

        /** A step over the values at two earlier places (right is 0 where one is enough): its place. */
        int add(char step, int left, int right) {
            if (left < 0 || left >= size || right < 0 || right >= size) {
                return NO_STEP;
            }
            return append(step, left, right, 0);
        }

        /** A number's value stands from the start: nothing is worked out at its step. */
        int addNumber(int value) {
            return append(NUMBER, 0, 0, value);
        }

        int addName(int name) {
            return name < 0 || name >= MOST_STEPS ? NO_STEP : append(NAME, name, 0, 0);
        }

        private int append(char step, int left, int right, int value) {
            if (size >= MOST_STEPS) {
                return NO_STEP;
            }
            steps[size] = step;
            lefts[size] = left;
            rights[size] = right;
            values[size] = value;
            size++;
            return size - 1;
        }

        /** The step at place, if it is one, goes on at the step that comes next. */
        void aimHere(int place) {
            if (place >= 0 && place < size && size < MOST_STEPS) {
                rights[place] = size;
            }
        }

        void copyFrom(Law other) {
            System.arraycopy(other.steps, 0, steps, 0, MOST_STEPS);
            System.arraycopy(other.lefts, 0, lefts, 0, MOST_STEPS);
            System.arraycopy(other.rights, 0, rights, 0, MOST_STEPS);
            System.arraycopy(other.values, 0, values, 0, MOST_STEPS);
            size = other.size;
        }

        /** What the first line that counts gives; names by their places in LawReader.NAMES. */
        int worth(int[] names) {
            int next = 0;
            for (int at = 0; at < size; at++) {
                if (at < next || steps[at] == NUMBER) {
                    continue;
                }
                int left = values[lefts[at]];
                int right = values[rights[at]];
                switch (steps[at]) {
                    case END: return left;
                    case UNLESS: next = left == 0 ? rights[at] : at; break;
                    case NAME: values[at] = lefts[at] < names.length ? names[lefts[at]] : 0; break;
                    case MINUS: values[at] = -left; break;
                    case '!': values[at] = left == 0 ? 1 : 0; break;
                    case '|': values[at] = left != 0 || right != 0 ? 1 : 0; break;
                    case '&': values[at] = left != 0 && right != 0 ? 1 : 0; break;
                    case '<': values[at] = left < right ? 1 : 0; break;
                    case '=': values[at] = left == right ? 1 : 0; break;
                    case '>': values[at] = left > right ? 1 : 0; break;
                    case '+': values[at] = left + right; break;
                    case '-': values[at] = left - right; break;
                    case '*': values[at] = left * right; break;
                    case '/': values[at] = right == 0 ? 0 : left / right; break;
                    case '%': values[at] = right == 0 ? 0 : left % right; break;
                    default: break;
                }
            }
            return 0;
        }
    }

    /** The tape, and the reading of it; each read..() stops at 'at' where no text goes on. */
    private static final class LawReader {
        private static final String NAMES = "adohbn";
        private static final int MOST_OPEN = 6, MOST_DIGITS = 4, NO_STEP = Law.NO_STEP;
        private static final int LOOSEST = 0, COMPARED = 2, TIGHTEST = 4;

        private final char[] tape = new char[MOST_LETTERS];
        private int length = 0;
        private int at = 0;
        private final Law draft = new Law();

        boolean isFull() {
            return length >= MOST_LETTERS;
        }

        int letters() {
            return length;
        }

        int take(int letter) {
            if (!isFull()) {
                tape[length] = (char) letter;
                length++;
            }
            return length;
        }

        /** The tape becomes the law and is emptied: -1; or the place of its fault. */
        int readInto(Law rule) {
            at = 0;
            draft.clear();
            boolean whole = readText();
            length = 0;
            if (!whole) {
                return at;
            }
            rule.copyFrom(draft);
            return -1;
        }

        private boolean takes(char sign) {
            if (at >= length || tape[at] != sign) {
                return false;
            }
            at++;
            return true;
        }

        private boolean readText() {
            for (int lines = 0; lines <= MOST_LETTERS; lines++) {
                if (!readLine()) {
                    return false;
                }
                if (at >= length) {
                    return true;
                }
                if (!takes(';')) {
                    return false;
                }
            }
            return false;
        }

        private boolean readLine() {
            int worth = readJoined(LOOSEST, 0);
            int asked = NO_STEP;
            if (worth != NO_STEP && takes('?')) {
                asked = draft.add(Law.UNLESS, worth, 0);
                worth = readJoined(LOOSEST, 0);
            }
            if (worth == NO_STEP) {
                return false;
            }
            draft.add(Law.END, worth, 0);
            draft.aimHere(asked);
            return true;
        }

        /** E, A, B, S and P are alike but for their signs; a comparison is not joined again. */
        private int readJoined(int tightness, int open) {
            if (tightness > TIGHTEST) {
                return readOne(open);
            }
            int left = readJoined(tightness + 1, open);
            int most = tightness == COMPARED ? 1 : MOST_LETTERS;
            for (int i = 0; i < most && left != NO_STEP && isAtSign(tightness); i++) {
                char sign = tape[at];
                at++;
                int right = readJoined(tightness + 1, open);
                left = right == NO_STEP ? NO_STEP : draft.add(sign, left, right);
            }
            return left;
        }

        private boolean isAtSign(int tightness) {
            return at < length && tightnessOf(tape[at]) == tightness;
        }

        private static int tightnessOf(char sign) {
            switch (sign) {
                case '|': return LOOSEST;
                case '&': return 1;
                case '<':
                case '=':
                case '>': return COMPARED;
                case '+':
                case '-': return 3;
                case '*':
                case '/':
                case '%': return TIGHTEST;
                default: return -1;
            }
        }

        /** A number, a name, or what stands behind one of ( ! - : these are counted as open. */
        private int readOne(int open) {
            if (at >= length) {
                return NO_STEP;
            }
            char sign = tape[at];
            if (isDigit(sign)) {
                return draft.addNumber(readNumber());
            }
            int name = NAMES.indexOf(sign);
            if (name >= 0) {
                at++;
                return draft.addName(name);
            }
            if (open >= MOST_OPEN) {
                return NO_STEP;
            }
            if (takes('(')) {
                int inner = readJoined(LOOSEST, open + 1);
                return inner != NO_STEP && takes(')') ? inner : NO_STEP;
            }
            if (!takes('!') && !takes('-')) {
                return NO_STEP;
            }
            int inner = readOne(open + 1);
            return inner == NO_STEP ? NO_STEP : draft.add(sign == '-' ? Law.MINUS : sign, inner, 0);
        }

        private int readNumber() {
            int value = 0;
            for (int i = 0; i < MOST_DIGITS && at < length && isDigit(tape[at]); i++) {
                value = 10 * value + tape[at] - '0';
                at++;
            }
            return value;
        }

        private static boolean isDigit(char sign) {
            return sign >= '0' && sign <= '9';
        }
    }

    /** By how many of twelve one wins: the people and the law, asked of any bench. */
    private static final class Court {
        private final Folk folk;
        private final Law rule;
        private final int[] names = new int[LawReader.NAMES.length()];

        Court(Folk folk, Law rule) {
            this.folk = folk;
            this.rule = rule;
        }

        Folk folk() {
            return folk;
        }

        int twelfths(Bench bench, int a, int b) {
            int speaker = bench.speakerFor(b);
            return twelfthsAgainst(bench, a, b, folk.numberOf(speaker, KIND), speaker == b);
        }

        /** As if somebody of that kind spoke for b: b itself, or another one. */
        int twelfthsAgainst(Bench bench, int a, int b, int kind, boolean itself) {
            int sharp = folk.numberOf(a, SHARP);
            int hates = folk.numberOf(a, HATES) == b ? 1 : 0;
            int worth = 6 + sharp + hates - kind;
            if (rule.isTold()) {
                names[0] = sharp;
                names[1] = kind;
                names[2] = itself ? 1 : 0;
                names[3] = hates;
                names[4] = bench.howManyBound();
                names[5] = bench.casesAhead();
                worth = rule.worth(names);
            }
            return Math.max(0, Math.min(TWELVE, worth));
        }

        /** How many of twelve an end has, when who charges wins by so many. */
        static int shareOf(boolean won, int twelfths) {
            return won ? twelfths : TWELVE - twelfths;
        }

        int easiest(Bench bench, int one) {
            return foremost(bench, one, true);
        }

        int hardest(Bench bench, int one) {
            return foremost(bench, one, false);
        }

        private int foremost(Bench bench, int one, boolean won) {
            int found = NOT;
            int most = -1;
            for (int b = 0; b < folk.size(); b++) {
                int share = b == one ? -1 : shareOf(won, twelfths(bench, one, b));
                if (share > most) {
                    most = share;
                    found = b;
                }
            }
            return found;
        }
    }

    /** Rows of cases, read in thought: a course with told ends, or a roll with unknown ones. */
    private static final class CaseReader {
        static final int MOST_UNKNOWN = 8;
        private static final int MOST_OF_COURSE = 20, MOST_OF_ROLL = 16, UNKNOWN = -1;
        private static final int LIKELIER = -1, EVEN = 6;

        private final Court court;
        private final Bench bench = new Bench();
        private int heard = 0;
        private int millionths = 0;
        private int gained = 0;
        private int wrongAt = NOT;
        private int soldAt = NOT;
        private long product = 0;
        private int ways = 0;
        private int likeliest = NOT;

        CaseReader(Court court) {
            this.court = court;
        }

        /** A course as far as it is let; the fees are reckoned for one. */
        void follow(Shelf row, Bench start, int one) {
            bench.copyFrom(start);
            heard = 0;
            millionths = 1000000;
            gained = 0;
            while (heard < MOST_OF_COURSE && isLet(row, heard) && endOf(row, heard) != UNKNOWN) {
                hear(row, heard, one);
                heard++;
            }
        }

        private void hear(Shelf row, int at, int one) {
            int a = chargerOf(row, at);
            int b = chargedOf(row, at);
            boolean won = endOf(row, at) == 1;
            int share = Court.shareOf(won, court.twelfths(bench, a, b));
            millionths = millionths * share / TWELVE;
            int loser = won ? b : a;
            if (one == a || one == b) {
                int fee = court.folk().numberOf(loser, FEE);
                gained += one == loser ? -fee : fee;
            }
            bench.settle(a, b, won);
        }

        int heard() {
            return heard;
        }

        int millionths() {
            return millionths;
        }

        int gained() {
            return gained;
        }

        int boundTo(int one) {
            return bench.boundTo(one);
        }

        private static int chargerOf(Shelf row, int at) {
            return row.getInt(3 * at);
        }

        private static int chargedOf(Shelf row, int at) {
            return row.getInt(3 * at + 1);
        }

        private static int endOf(Shelf row, int at) {
            return row.getInt(3 * at + 2);
        }

        private static boolean isWhole(Shelf row, int at) {
            return 3 * at + 3 <= row.size();
        }

        private boolean isLet(Shelf row, int at) {
            if (!isWhole(row, at)) {
                return false;
            }
            int a = chargerOf(row, at);
            int end = endOf(row, at);
            return court.folk().areUnlike(a, chargedOf(row, at)) && bench.isFree(a)
                    && end >= UNKNOWN && end <= 1;
        }

        private static int casesOf(Shelf row) {
            // a three that lacks something is a case, too: it is the one that is judged wrong
            return Math.min(MOST_OF_ROLL, (row.size() + 2) / 3);
        }

        int countUnknown(Shelf row) {
            int unknown = 0;
            for (int at = 0; at < casesOf(row); at++) {
                if (isWhole(row, at) && endOf(row, at) == UNKNOWN
                        && court.folk().has(chargerOf(row, at))
                        && court.folk().has(chargedOf(row, at))) {
                    unknown++;
                }
            }
            return unknown;
        }

        int firstWrong(Shelf row, Bench start) {
            walk(row, start, LIKELIER);
            return wrongAt;
        }

        void weighWays(Shelf row, Bench start) {
            int all = 1 << Math.min(MOST_UNKNOWN, countUnknown(row));
            long most = 0;
            ways = 0;
            likeliest = NOT;
            for (int way = 0; way < all; way++) {
                walk(row, start, way);
                if (wrongAt == NOT) {
                    ways++;
                    if (product > most) {
                        most = product;
                        likeliest = way;
                    }
                }
            }
        }

        int ways() {
            return ways;
        }

        int likeliestWay() {
            return likeliest;
        }

        /** Behind weighWays(): by the way that is the likeliest one. */
        int firstSold(Shelf row, Bench start) {
            if (likeliest == NOT) {
                return NOT;
            }
            walk(row, start, likeliest);
            return soldAt;
        }

        /** A roll up to its first wrong case, unknown ends by the bits of way, or the likelier. */
        private void walk(Shelf row, Bench start, int way) {
            bench.copyFrom(start);
            wrongAt = NOT;
            soldAt = NOT;
            product = 1;
            int unknown = 0;
            for (int at = 0; at < casesOf(row); at++) {
                if (!isLet(row, at)) {
                    wrongAt = at;
                    return;
                }
                int twelfths = court.twelfths(bench, chargerOf(row, at), chargedOf(row, at));
                boolean won = endOf(row, at) == 1;
                if (endOf(row, at) == UNKNOWN) {
                    won = way == LIKELIER ? twelfths >= EVEN : (way >> unknown & 1) == 1;
                    unknown++;
                }
                int share = Court.shareOf(won, twelfths);
                if (share == 0) {
                    wrongAt = at;
                    return;
                }
                if (soldAt == NOT && share < EVEN) {
                    soldAt = at;
                }
                product *= share;
                bench.settle(chargerOf(row, at), chargedOf(row, at), won);
            }
        }
    }

    /** How few cases it takes, among few people. */
    private static final class Search {
        static final int MOST_SEARCHED = 4, STATES_OF_ONE = MOST_SEARCHED + 1;
        private static final int CODES = 625, MOST_CASES = 8, MOST_SURE = 6, NEVER = 1000;
        private static final int ASKED = MOST_SEARCHED * MOST_SEARCHED * MOST_SEARCHED
                * STATES_OF_ONE;

        private final Court court;
        // by the code of a bench: bit k is set if k cases can lead to it
        private final int[] reached = new int[CODES];
        // what the law gave at this step; it depends on nothing else, and many benches ask alike
        private final int[] given = new int[ASKED];
        private final Bench from = new Bench();
        private final Bench to = new Bench();
        private final Bench[] surely = new Bench[MOST_SURE + 1];

        Search(Court court) {
            this.court = court;
            for (int i = 0; i <= MOST_SURE; i++) {
                surely[i] = new Bench();
            }
        }

        int fewestTillBound(Bench start, int a, int b) {
            if (start.boundTo(a) == b) {
                return 0;
            }
            begin(start);
            for (int step = 1; step <= MOST_CASES; step++) {
                spread(step - 1, start.casesAhead() + step - 1);
                if (isBoundSomewhere(step, a, b)) {
                    return step;
                }
            }
            return NOT;
        }

        int fewestRound(Bench start) {
            begin(start);
            for (int step = 1; step <= MOST_CASES; step++) {
                spread(step - 1, start.casesAhead() + step - 1);
                if (isReached(start.toCode(), step)) {
                    return step;
                }
            }
            return NOT;
        }

        private void begin(Bench start) {
            for (int code = 0; code < CODES; code++) {
                reached[code] = 0;
            }
            reach(start, 0);
        }

        private void reach(Bench bench, int step) {
            int code = bench.toCode();
            if (code >= 0 && code < CODES) {
                reached[code] |= 1 << step;
            }
        }

        private boolean isReached(int code, int step) {
            return code >= 0 && code < CODES && (reached[code] >> step & 1) == 1;
        }

        private boolean isBoundSomewhere(int step, int a, int b) {
            for (int code = 0; code < CODES; code++) {
                if (isReached(code, step)) {
                    from.fromCode(code, 0);
                    if (from.boundTo(a) == b) {
                        return true;
                    }
                }
            }
            return false;
        }

        private void spread(int step, int ahead) {
            for (int i = 0; i < ASKED; i++) {
                given[i] = NOT;
            }
            for (int code = 0; code < CODES; code++) {
                if (isReached(code, step)) {
                    from.fromCode(code, ahead);
                    spreadFrom(step);
                }
            }
        }

        private void spreadFrom(int step) {
            int many = court.folk().size();
            for (int a = 0; a < many; a++) {
                for (int b = 0; b < many; b++) {
                    if (a != b && from.isFree(a)) {
                        int twelfths = twelfthsGiven(a, b);
                        if (twelfths > 0) {
                            lead(a, b, true, step);
                        }
                        if (twelfths < TWELVE) {
                            lead(a, b, false, step);
                        }
                    }
                }
            }
        }

        private void lead(int a, int b, boolean won, int step) {
            to.copyFrom(from);
            to.settle(a, b, won);
            reach(to, step + 1);
        }

        private int twelfthsGiven(int a, int b) {
            int who = (a * MOST_SEARCHED + b) * MOST_SEARCHED + from.speakerFor(b);
            int asked = who * STATES_OF_ONE + from.howManyBound();
            if (asked < 0 || asked >= ASKED) {
                return court.twelfths(from, a, b);
            }
            if (given[asked] == NOT) {
                given[asked] = court.twelfths(from, a, b);
            }
            return given[asked];
        }

        int fewestSure(Bench start, int a, int b) {
            surely[0].copyFrom(start);
            int fewest = fewestSureFrom(0, a, b);
            return fewest > MOST_SURE ? NOT : fewest;
        }

        /** Whoever loses to another one than b stays bound to him: such a charge must be sure. */
        private int fewestSureFrom(int step, int a, int b) {
            int fewest = NEVER;
            if (step < 0 || step >= MOST_SURE) {
                return fewest;
            }
            for (int c = 0; c < court.folk().size(); c++) {
                int twelfths = c == a ? 0 : court.twelfths(surely[step], a, c);
                if (c != a && (c == b || twelfths == TWELVE)) {
                    int needed = 1;
                    if (twelfths > 0) {
                        surely[step + 1].copyFrom(surely[step]);
                        surely[step + 1].settle(a, c, true);
                        needed += fewestSureFrom(step + 1, a, b);
                    }
                    fewest = Math.min(fewest, needed);
                }
            }
            return fewest;
        }
    }

    /** The charges of a row, and the days on which they are heard. */
    private static final class Docket {
        static final int MOST_DEALT = 6;
        private static final int MOST_CHARGES = 10;

        private final int[] chargers = new int[MOST_CHARGES];
        private final int[] charged = new int[MOST_CHARGES];
        private int size = 0;
        // by who charges: the bits of whom
        private final int[] against = new int[MOST_PEOPLE];
        private final int[] dealt = new int[MOST_DEALT];

        int size() {
            return size;
        }

        void read(Shelf row, Folk folk) {
            size = 0;
            for (int i = 0; i < MOST_PEOPLE; i++) {
                against[i] = 0;
            }
            for (int i = 0; i < MOST_CHARGES && 2 * i + 2 <= row.size(); i++) {
                int a = row.getInt(2 * i);
                int b = row.getInt(2 * i + 1);
                if (!folk.areUnlike(a, b)) {
                    return;
                }
                chargers[i] = a;
                charged[i] = b;
                against[a] |= 1 << b;
                size++;
            }
        }

        int neverCharged(Folk folk) {
            int never = (1 << folk.size()) - 1;
            for (int i = 0; i < MOST_PEOPLE; i++) {
                never &= ~against[i];
            }
            return never;
        }

        /** Rounds of three, each counted from its least one on, so that it counts once. */
        int threes() {
            int found = 0;
            for (int a = 0; a < MOST_PEOPLE; a++) {
                for (int b = a + 1; b < MOST_PEOPLE; b++) {
                    for (int c = a + 1; c < MOST_PEOPLE; c++) {
                        if (hasCharge(a, b) && hasCharge(b, c) && hasCharge(c, a)) {
                            found++;
                        }
                    }
                }
            }
            return found;
        }

        private boolean hasCharge(int a, int b) {
            return (against[a] >> b & 1) == 1;
        }

        /** The fewest days; what is dealt is then the first way by days, charge by charge. */
        int dealDays() {
            for (int days = 0; days <= MOST_DEALT; days++) {
                if (dealFrom(0, days)) {
                    return days;
                }
            }
            return NOT;
        }

        int dayOf(int k) {
            return k >= 0 && k < size && k < MOST_DEALT ? dealt[k] : NOT;
        }

        private boolean dealFrom(int k, int days) {
            if (k >= size || k >= MOST_DEALT) {
                return true;
            }
            for (int day = 0; day < days; day++) {
                if (fits(k, day)) {
                    dealt[k] = day;
                    if (dealFrom(k + 1, days)) {
                        return true;
                    }
                }
            }
            return false;
        }

        private boolean fits(int k, int day) {
            for (int i = 0; i < k; i++) {
                boolean meets = chargers[i] == charged[k] || charged[i] == chargers[k];
                if (dealt[i] == day && meets) {
                    return false;
                }
            }
            return true;
        }
    }

    /** Years of cases by draws, in thought: each begins from now, only the draws go on. */
    private static final class Draws {
        private final Court court;
        private final Bench bench = new Bench();
        private int heard = 0;
        private int wonByOne = 0;
        private int boundAtEnds = 0;

        Draws(Court court) {
            this.court = court;
        }

        void pass(Bench start, int seed, int years, int each, int one) {
            heard = 0;
            wonByOne = 0;
            boundAtEnds = 0;
            if (court.folk().size() < 2) {
                return;
            }
            int z = seed;
            for (int year = 0; year < years; year++) {
                bench.copyFrom(start);
                for (int i = 0; i < each; i++) {
                    z = z * 1103515245 + 12345;
                    drawCase(z, one);
                }
                boundAtEnds += bench.howManyBound();
            }
        }

        private void drawCase(int z, int one) {
            int many = court.folk().size();
            if (many < 2) {
                return;
            }
            int a = (z >>> 4) % many;
            int b = (z >>> 12) % (many - 1);
            if (b >= a) {
                b++;
            }
            if (!bench.isFree(a)) {
                return;
            }
            boolean won = (z >>> 20) % TWELVE < court.twelfths(bench, a, b);
            bench.settle(a, b, won);
            heard++;
            if (won && a == one) {
                wonByOne++;
            }
        }

        int heard() {
            return heard;
        }

        int wonByOne() {
            return wonByOne;
        }

        int boundAtEnds() {
            return boundAtEnds;
        }
    }

    /** Bodies of eight kinds whose acts come from above: each body of an act bears a number. */
    private static final class Acts {
        private static final int MOST_BODIES = 50, KINDS = 8, ACTS = 4, MOST_TRACED = 24;
        private static final int BRINGS = 0, SPEAKS = 1, BINDS = 2, TELLS = 3, DEEPEST = 40;
        private static final int[] ABOVE = {-1, 0, 0, 2, 1, 3, 0, 6};
        // by kind and act: the body that the kind has of its own; 0: it comes from above
        private static final int[] OWN = {
            1, 10, 11, 2,
            20, 0, 0, 0,
            0, 30, 0, 0,
            0, 41, 40, 0,
            0, 0, 0, 50,
            0, 0, 60, 61,
            70, 0, 0, 0,
            81, 80, 0, 0};

        private final int[] kinds = new int[MOST_BODIES];
        private int size = 0;
        private final int[] traced = new int[MOST_TRACED];
        private int ran = 0;
        private int number = 0;
        private int kind = 0;

        static boolean isKind(int kind) {
            return kind >= 0 && kind < KINDS;
        }

        static boolean isUnder(int kind, int other) {
            int at = kind;
            for (int i = 0; i < KINDS && isKind(at); i++) {
                if (at == other) {
                    return true;
                }
                at = ABOVE[at];
            }
            return false;
        }

        boolean isFull() {
            return size >= MOST_BODIES;
        }

        int size() {
            return size;
        }

        int make(int kind) {
            if (isFull()) {
                return FULL;
            }
            kinds[size] = kind;
            size++;
            return size - 1;
        }

        boolean has(int body) {
            return body >= 0 && body < size;
        }

        int kindOf(int body) {
            return has(body) ? kinds[body] : BAD;
        }

        int ran() {
            return ran;
        }

        int traced() {
            return Math.min(ran, MOST_TRACED);
        }

        int tracedAt(int i) {
            return i >= 0 && i < traced() ? traced[i] : BAD;
        }

        int perform(int body, int act, int x) {
            ran = 0;
            if (!has(body) || act < 0 || act >= ACTS) {
                return 0;
            }
            number = body;
            kind = kinds[body];
            return runFrom(kind, act, x, 0);
        }

        private static int holderFrom(int kind, int act) {
            int at = kind;
            for (int i = 0; i < KINDS && isKind(at); i++) {
                if (OWN[ACTS * at + act] != 0) {
                    return at;
                }
                at = ABOVE[at];
            }
            return -1;
        }

        private void noteRun(int own) {
            if (ran < MOST_TRACED) {
                traced[ran] = own;
            }
            ran++;
        }

        /** The act as the kind has it, or the next one above: 'kind' is the body's own kind. */
        private int runFrom(int first, int act, int x, int depth) {
            int holder = holderFrom(first, act);
            if (holder < 0 || depth > DEEPEST) {
                return 0;
            }
            int own = OWN[ACTS * holder + act];
            int above = ABOVE[holder];
            int deeper = depth + 1;
            noteRun(own);
            switch (own) {
                case 1: return x + number;
                case 2: return runFrom(kind, SPEAKS, x, deeper) - runFrom(kind, BINDS, 1, deeper);
                case 10: return runFrom(kind, BRINGS, x, deeper) * 2;
                case 11: return x ^ number;
                case 20: return runFrom(above, BRINGS, x, deeper) + 3;
                case 30: return -runFrom(above, SPEAKS, x, deeper);
                case 40: return runFrom(above, BINDS, x, deeper) * 3;
                case 41: return runFrom(above, SPEAKS, x + 1, deeper);
                case 50: return runFrom(above, TELLS, x, deeper) ^ 5;
                case 60: return runFrom(above, BINDS, x, deeper) - runFrom(kind, BRINGS, 2, deeper);
                case 61: return runFrom(above, TELLS, x, deeper) + 1;
                case 70: return runFrom(above, BRINGS, x, deeper) * 2;
                case 80: return runFrom(above, SPEAKS, x, deeper) + runFrom(kind, BINDS, 2, deeper);
                case 81: return runFrom(above, BRINGS, x, deeper) - 1;
                default: return 0;
            }
        }
    }

    /** A shelf with nothing, a body, or a row; its elements are made once and used again. */
    private static final class Shelf {
        private static final int SHORTS = 1, INTS = 2, LONGS = 3, BOOLEANS = 4;
        private static final int NO_SORT = -1, NO_BODY = -1;

        private final long[] elements = new long[MOST_ELEMENTS];
        private int size = 0;
        private int sort = NO_SORT;
        private int held = NO_BODY;

        static boolean isSort(int sort) {
            return sort >= BYTES && sort <= BOOLEANS;
        }

        boolean isEmpty() {
            return sort == NO_SORT && held == NO_BODY;
        }

        boolean hasBytes() {
            return sort == BYTES;
        }

        int size() {
            return size;
        }

        int heldBody() {
            return held;
        }

        void clear() {
            size = 0;
            sort = NO_SORT;
            held = NO_BODY;
        }

        void holdBody(int body) {
            clear();
            held = body;
        }

        void holdRow(int newSort, int n) {
            clear();
            sort = newSort;
            size = Math.max(0, Math.min(MOST_ELEMENTS, n));
            for (int i = 0; i < size; i++) {
                elements[i] = 0;
            }
        }

        int refusalOfBytes() {
            if (isEmpty()) {
                return NOTHING_THERE;
            }
            return hasBytes() ? 0 : OTHER_KIND;
        }

        int refusalOfPlace(int i) {
            if (isEmpty()) {
                return NOTHING_THERE;
            }
            if (sort == NO_SORT) {
                return OTHER_KIND;
            }
            return i < 0 || i >= size ? NO_PLACE : 0;
        }

        long get(int i) {
            return i >= 0 && i < size ? elements[i] : 0;
        }

        int getInt(int i) {
            return (int) get(i);
        }

        void set(int i, long v) {
            if (i >= 0 && i < size) {
                elements[i] = lowestBits(v);
            }
        }

        private long lowestBits(long v) {
            switch (sort) {
                case BYTES: return (byte) v;
                case SHORTS: return (short) v;
                case INTS: return (int) v;
                case LONGS: return v;
                default: return v != 0 ? 1 : 0;
            }
        }

        boolean isLike(Shelf other) {
            return sort != NO_SORT && sort == other.sort;
        }

        boolean hasPart(int i, int n) {
            return i >= 0 && n >= 0 && n <= size && i <= size - n;
        }

        void copyPart(int i, Shelf to, int j, int n) {
            if (hasPart(i, n) && to.hasPart(j, n)) {
                System.arraycopy(elements, i, to.elements, j, n);
            }
        }
    }
}
