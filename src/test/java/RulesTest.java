import java.io.DataInputStream;
import java.io.IOException;
import java.io.InputStream;
import java.lang.reflect.Field;
import java.lang.reflect.Modifier;
import java.util.ArrayDeque;
import java.util.ArrayList;
import java.util.Deque;
import java.util.List;
import java.util.Map;
import java.util.Set;
import java.util.TreeMap;
import java.util.TreeSet;

/**
 * Rules of LANGUAGE.md that are seen in the compiled class: 4 (the library), 8 (what calls itself),
 * 11 (how deep calls go, how many fields a class has), 12 (who makes objects).
 */
public final class RulesTest {
    private static final Check check = new Check("RulesTest");
    private static final String OWN = "MustDefendHim";
    private static final int DEEPEST = 8, MOST_FIELDS = 20;
    private static final Set<String> LIBRARY = Set.of("java/lang/Object.<init>", "java/lang/Math.max",
            "java/lang/Math.min", "java/lang/String.length", "java/lang/String.indexOf",
            "java/lang/System.arraycopy");
    private static final Set<String> RECURSIVE = Set.of("MustDefendHim$LawReader.readJoined",
            "MustDefendHim$LawReader.readOne", "MustDefendHim$Search.fewestSureFrom",
            "MustDefendHim$Docket.dealFrom", "MustDefendHim$Acts.runFrom");

    private static final Map<String, Set<String>> calls = new TreeMap<>();
    private static final Set<String> makers = new TreeSet<>();

    public static void main(String[] args) throws IOException {
        List<Class<?>> classes = new ArrayList<>(List.of(MustDefendHim.class.getDeclaredClasses()));
        classes.add(MustDefendHim.class);
        for (Class<?> c : classes) {
            try (InputStream in = c.getResourceAsStream("/" + c.getName() + ".class")) {
                new Reader(in).readClass();
            }
            fields(c);
        }
        check.holds("the calls were read", calls.size() > 150);
        library();
        recursion();
        depth();
        objects();
        check.end();
    }

    private static void fields(Class<?> c) {
        int many = 0;
        for (Field f : c.getDeclaredFields()) {
            many += Modifier.isStatic(f.getModifiers()) ? 0 : 1;
        }
        check.holds(c + " has " + many + " fields", many <= MOST_FIELDS);
    }

    private static void library() {
        calls.forEach((from, all) -> all.forEach(to -> check.holds(from + " calls " + to,
                calls.containsKey(to) || LIBRARY.contains(to))));
    }

    private static void recursion() {
        for (String m : calls.keySet()) {
            check.holds(m + " is known to call itself, or does not", leadsTo(m, m) == RECURSIVE.contains(m));
        }
    }

    private static boolean leadsTo(String from, String to) {
        Set<String> seen = new TreeSet<>();
        Deque<String> open = new ArrayDeque<>(List.of(from));
        while (!open.isEmpty()) {
            for (String next : calls.getOrDefault(open.pop(), Set.of())) {
                if (next.equals(to)) {
                    return true;
                }
                if (seen.add(next)) {
                    open.push(next);
                }
            }
        }
        return false;
    }

    private static void depth() {
        for (String m : calls.keySet()) {
            List<String> deepest = deepest(m, new ArrayDeque<>());
            check.holds(deepest.size() + " deep: " + deepest, deepest.size() <= DEEPEST);
        }
    }

    /** The longest chain of calls that begins so; what calls itself stands in it once. */
    private static List<String> deepest(String from, Deque<String> open) {
        open.addLast(from);
        List<String> longest = new ArrayList<>(open);
        for (String next : calls.getOrDefault(from, Set.of())) {
            if (!open.contains(next)) {
                List<String> chain = deepest(next, open);
                longest = chain.size() > longest.size() ? chain : longest;
            }
        }
        open.removeLast();
        return longest;
    }

    /** What a run makes is made with the court: no call makes anything. */
    private static void objects() {
        check.holds("making was read", makers.contains("MustDefendHim.<init>"));
        for (String m : makers) {
            check.holds(m + " makes objects", m.endsWith(".<init>") || m.endsWith(".<clinit>"));
        }
    }

    /** Reads a class file as far as needed: which method calls which, and which makes objects. */
    private static final class Reader {
        private final DataInputStream in;
        private String[] texts;
        private int[][] pairs;

        Reader(InputStream in) {
            this.in = new DataInputStream(in);
        }

        void readClass() throws IOException {
            in.readInt();
            in.readInt();
            readConstants();
            in.readUnsignedShort();
            String name = texts[pairs[in.readUnsignedShort()][0]];
            in.readUnsignedShort();
            in.skipNBytes(2L * in.readUnsignedShort());
            readMembers(name, false);
            readMembers(name, true);
        }

        private void readConstants() throws IOException {
            int n = in.readUnsignedShort();
            texts = new String[n];
            pairs = new int[n][];
            for (int i = 1; i < n; i++) {
                int tag = in.readUnsignedByte();
                switch (tag) {
                    case 1 -> texts[i] = in.readUTF();
                    case 5, 6 -> {
                        in.readLong();
                        i++;
                    }
                    case 7, 8, 16, 19, 20 -> pairs[i] = new int[] {in.readUnsignedShort()};
                    case 9, 10, 11, 12, 17, 18 -> pairs[i] =
                            new int[] {in.readUnsignedShort(), in.readUnsignedShort()};
                    case 15 -> in.skipNBytes(3);
                    default -> in.readInt();
                }
            }
        }

        private void readMembers(String name, boolean methods) throws IOException {
            int n = in.readUnsignedShort();
            for (int i = 0; i < n; i++) {
                in.readUnsignedShort();
                String member = name + "." + texts[in.readUnsignedShort()];
                in.readUnsignedShort();
                int attributes = in.readUnsignedShort();
                for (int k = 0; k < attributes; k++) {
                    String attribute = texts[in.readUnsignedShort()];
                    byte[] bytes = in.readNBytes(in.readInt());
                    if (methods && attribute.equals("Code")) {
                        readCode(member, bytes);
                    }
                }
            }
        }

        private static int number(byte[] b, int at, int bytes) {
            int v = 0;
            for (int i = 0; i < bytes; i++) {
                v = v << 8 | b[at + i] & 255;
            }
            return v;
        }

        private void readCode(String method, byte[] b) {
            Set<String> called = calls.computeIfAbsent(method, m -> new TreeSet<>());
            int end = 8 + number(b, 4, 4);
            for (int at = 8; at < end; at += 1 + operands(b, at)) {
                int op = b[at] & 255;
                if (op >= 182 && op <= 185) {
                    int[] to = pairs[number(b, at + 1, 2)];
                    called.add(texts[pairs[to[0]][0]] + "." + texts[pairs[to[1]][0]]);
                }
                check.holds(method + " has no lambda and joins no texts by +", op != 186);
                check.holds(method + " throws nothing", op != 191);
                if (op == 187 || op == 188 || op == 189 || op == 197) {
                    makers.add(method);
                }
            }
        }

        /** How many bytes stand behind the sign at that place, up to the next one. */
        private static int operands(byte[] b, int at) {
            int op = b[at] & 255;
            if (op == 170 || op == 171) {
                // a switch's numbers begin at a place of the code that four divides
                int first = at + 4 - (at - 8) % 4;
                int many = op == 170 ? number(b, first + 8, 4) - number(b, first + 4, 4) + 4
                        : 2 * number(b, first + 4, 4) + 2;
                return first + 4 * many - at - 1;
            }
            if (op == 196) {
                return (b[at + 1] & 255) == 132 ? 5 : 3;
            }
            boolean one = op == 16 || op == 18 || op >= 21 && op <= 25 || op >= 54 && op <= 58 || op == 169
                    || op == 188;
            boolean two = op == 17 || op == 19 || op == 20 || op == 132 || op >= 153 && op <= 168
                    || op >= 178 && op <= 184 || op == 187 || op == 189 || op == 192 || op == 193
                    || op == 198 || op == 199;
            boolean four = op == 185 || op == 186 || op == 200 || op == 201;
            return one ? 1 : two ? 2 : op == 197 ? 3 : four ? 4 : 0;
        }
    }
}
