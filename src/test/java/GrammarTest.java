import java.util.HashSet;
import java.util.Set;

/**
 * THE LAW's grammar as the document writes it, each kind of word as the set of all that are short
 * enough, beside the set of all their beginnings: every short row of signs is a TEXT or has its
 * FAULT ("the first byte with which no TEXT goes on; the length, if it ends too early") just so.
 */
public final class GrammarTest {
    private static final Check check = new Check("GrammarTest");
    private static final String SIGNS = "a1()!-+*<&|?;";
    private static final int LONGEST = 5;

    /** All words of a kind that are short enough, and all beginnings of words of any length. */
    private static final class Kind {
        private final Set<String> whole = new HashSet<>();
        private final Set<String> begun = new HashSet<>(Set.of(""));

        private int size() {
            return whole.size() + begun.size();
        }
    }

    private static Set<String> joined(Set<String> left, Set<String> right) {
        Set<String> all = new HashSet<>();
        for (String l : left) {
            for (String r : right) {
                if (l.length() + r.length() <= LONGEST) {
                    all.add(l + r);
                }
            }
        }
        return all;
    }

    private static void alike(Kind to, Kind from) {
        to.whole.addAll(from.whole);
        to.begun.addAll(from.begun);
    }

    /** to has left, one of the signs, right. */
    private static void by(Kind to, Kind left, String signs, Kind right) {
        for (char sign : signs.toCharArray()) {
            Set<String> ahead = joined(left.whole, Set.of("" + sign));
            to.whole.addAll(joined(ahead, right.whole));
            to.begun.addAll(ahead);
            to.begun.addAll(joined(ahead, right.begun));
        }
    }

    /** "O = a number (1 to 4 digits), a NAME, ! O, - O, ( E )" */
    private static void one(Kind o, Kind e) {
        Set<String> words = Set.of("1", "11", "111", "1111", "a");
        o.whole.addAll(words);
        o.begun.addAll(words);
        for (String sign : new String[] {"!", "-"}) {
            o.whole.addAll(joined(Set.of(sign), o.whole));
            o.begun.addAll(joined(Set.of(sign), o.begun));
        }
        Set<String> bracket = joined(joined(Set.of("("), e.whole), Set.of(")"));
        o.whole.addAll(bracket);
        o.begun.addAll(bracket);
        o.begun.addAll(joined(Set.of("("), e.begun));
    }

    private static Kind texts() {
        Kind text = new Kind();
        Kind line = new Kind();
        Kind e = new Kind();
        Kind a = new Kind();
        Kind b = new Kind();
        Kind s = new Kind();
        Kind p = new Kind();
        Kind o = new Kind();
        for (int before = -1; before < text.size() + o.size();) {
            before = text.size() + o.size();
            one(o, e);
            alike(p, o);
            by(p, p, "*", o);
            alike(s, p);
            by(s, s, "+-", p);
            alike(b, s);
            by(b, s, "<", s);
            alike(a, b);
            by(a, a, "&", b);
            alike(e, a);
            by(e, e, "|", a);
            alike(line, e);
            by(line, e, "?", e);
            alike(text, line);
            by(text, text, ";", line);
        }
        return text;
    }

    private static int dueOf(Kind text, String signs) {
        if (text.whole.contains(signs)) {
            return 1;
        }
        int place = 0;
        while (place < signs.length() && text.begun.contains(signs.substring(0, place + 1))) {
            place++;
        }
        return -100 - place;
    }

    private static void ask(Kind text, String signs) {
        check.due("law of " + signs, dueOf(text, signs), Check.law(new MustDefendHim(), signs));
        if (signs.length() < LONGEST) {
            for (char sign : SIGNS.toCharArray()) {
                ask(text, signs + sign);
            }
        }
    }

    public static void main(String[] args) {
        Kind text = texts();
        check.holds("some are texts", text.whole.contains("a?1;a") && text.whole.contains("(a)<1"));
        check.holds("some are none", !text.whole.contains("a<a<a") && !text.begun.contains("11111"));
        ask(text, "");
        check.end();
    }
}
