import java.lang.reflect.Method;
import java.util.ArrayList;
import java.util.Arrays;
import java.util.HashMap;
import java.util.List;
import java.util.Map;
import java.util.Random;

/** Runs of many kinds of calls, each laid beside the model; the runs are the same every time. */
public final class ModelTest {
    private static final int RUNS = 3000, CALLS = 500;
    private static final int[] ODD = {Integer.MIN_VALUE, -101, -2, -1, 7, 8, 61, 101, Integer.MAX_VALUE};

    private final Random random;
    private final MustDefendHim object = new MustDefendHim();
    private final Model model = new Model();
    private final List<String> said = new ArrayList<>();
    private final int most;
    private boolean wrong = false;

    private ModelTest(long seed) {
        random = new Random(seed);
        most = 2 + random.nextInt(6);
    }

    private int up(int n) {
        return random.nextInt(n);
    }

    /** 0 .. n - 1, now and then something else. */
    private int about(int n) {
        int way = up(60);
        return way == 0 ? ODD[up(ODD.length)] : way == 1 ? n : way == 2 ? -1 : up(n);
    }

    private int pair() {
        int many = Math.max(2, model.count(0));
        if (up(25) == 0) {
            return up(8) == 0 ? ODD[up(ODD.length)] : up(100);
        }
        int a = up(many);
        int b = (a + 1 + up(many - 1)) % many;
        return 10 * a + b;
    }

    private long ask(String name, Object... args) {
        if (wrong || said.size() >= CALLS) {
            return 0;
        }
        try {
            Method m = METHODS.get(name);
            Class<?>[] types = m.getParameterTypes();
            long got = ((Number) m.invoke(object, args)).longValue();
            Method d = Model.class.getDeclaredMethod(name, types);
            long want = ((Number) d.invoke(model, args)).longValue();
            String call = name + Arrays.toString(args).replace('[', '(').replace(']', ')');
            said.add(call + " -> " + got);
            if (got != want) {
                wrong = true;
                System.out.println("a run of " + said.size() + " calls: " + call + " answered " + got
                        + ", the model says " + want);
                said.forEach(s -> System.out.println("    " + s));
            }
            return want;
        } catch (ReflectiveOperationException e) {
            throw new IllegalStateException(name, e);
        }
    }

    private static final Map<String, Method> METHODS = new HashMap<>();

    static {
        for (Method m : MustDefendHim.class.getDeclaredMethods()) {
            if (java.lang.reflect.Modifier.isPublic(m.getModifiers())) {
                METHODS.put(m.getName(), m);
            }
        }
    }

    private String text(int deep, int level) {
        if (level < 5) {
            String[] signs = {"|", "&", "<=>", "+-", "*/%"};
            StringBuilder b = new StringBuilder(text(deep, level + 1));
            int more = up(level == 3 ? 2 : 5) == 0 ? 1 + (level == 2 ? 0 : up(2)) : 0;
            for (int i = 0; i < more; i++) {
                b.append(signs[level].charAt(up(signs[level].length()))).append(text(deep, level + 1));
            }
            return b.toString();
        }
        int way = up(deep > 0 ? 10 : 7);
        if (way < 4) {
            return "" + "adohbn".charAt(up(6));
        }
        if (way < 7) {
            return "" + (up(8) == 0 ? up(10000) : up(14));
        }
        return way == 7 ? "(" + text(deep - 1, 0) + ")" : (way == 8 ? "!" : "-") + text(deep - 1, 5);
    }

    private void newLaw() {
        StringBuilder b = new StringBuilder();
        int lines = 1 + up(3);
        for (int i = 0; i < lines; i++) {
            b.append(i > 0 ? ";" : "").append(up(2) == 0 ? text(3, 0) + "?" : "").append(text(4, 0));
        }
        if (up(3) == 0 && b.length() > 0) {
            int at = up(b.length());
            char other = "adohbn0123456789()!-+*/%<=>|&?; z".charAt(up(33));
            if (up(2) == 0) {
                b.setCharAt(at, other);
            } else if (up(2) == 0) {
                b.setLength(at);
            } else {
                b.insert(at, other);
            }
        }
        String text = b.length() > 60 && up(4) > 0 ? "6+a-d" : b.toString();
        for (int i = 0; i < text.length(); i++) {
            ask("feed", (int) text.charAt(i));
        }
        ask("law");
    }

    private void newRow(int shelf, int group) {
        int many = Math.max(2, model.count(0));
        int size = up(up(3) == 0 ? 61 : 25);
        int[] values = new int[size];
        Model.Bonds bonds = model.bonds();
        for (int i = 0; i < size; i++) {
            values[i] = up(many);
            if (i % group == 0 && up(20) > 0) {
                values[i] = someoneFree(bonds, many);
            } else if (i % group == 1 && up(30) > 0) {
                values[i] = (values[i - 1] + 1 + up(many - 1)) % many;
            } else if (i % group == 2) {
                int end = up(2);
                boolean people = values[i - 2] < bonds.bound.size() && values[i - 1] < bonds.bound.size();
                bonds = people ? bonds.after(values[i - 2], values[i - 1], end) : bonds;
                values[i] = up(3) == 0 ? -1 : end;
            }
        }
        ask("row", shelf, 0, size);
        for (int i = 0; i < size; i++) {
            ask("put", shelf, i, up(150) == 0 ? random.nextInt() : (long) values[i]);
        }
    }

    private int someoneFree(Model.Bonds bonds, int many) {
        int first = up(many);
        for (int i = 0; i < many; i++) {
            int one = (first + i) % many;
            if (one < bonds.bound.size() && bonds.bound.get(one) < 0) {
                return one;
            }
        }
        return first;
    }

    private void inThought() {
        int shelf = up(40) == 0 ? about(6) : up(3);
        int one = about(Math.max(1, model.count(0)));
        switch (up(16)) {
            case 0 -> ask("wins", pair(), about(2));
            case 1 -> ask("course", shelf, up(3) == 0 ? -1 : one);
            case 2 -> ask("ends", shelf, one, about(2));
            case 3 -> ask("best", one, about(2));
            case 4 -> ask("beside", pair(), about(2));
            case 5 -> ask("tillBound", pair());
            case 6 -> ask("round");
            case 7 -> ask("sure", pair());
            case 8 -> ask("charges", shelf, about(3));
            case 9 -> ask("days", shelf, about(6) - (up(3) == 0 ? 1 : 0));
            case 10 -> ask("quiet", one, about(2));
            case 11 -> ask("judge", shelf);
            case 12 -> ask("roll", shelf, about(2));
            case 13 -> ask("sold", shelf);
            case 14 -> ask("friend", pair(), about(10));
            default -> ask("drawn", random.nextInt(), about(31) * 100 + about(61), about(3), one);
        }
    }

    private void inDeed() {
        int one = about(Math.max(1, model.count(0)));
        switch (up(12)) {
            case 0 -> ask("release", one);
            case 1 -> ask(up(3) == 0 ? "year" : "image");
            case 2 -> ask("back");
            case 3 -> ask("undo");
            case 4 -> ask("redo");
            case 5 -> ask("led", about(5));
            case 6, 7 -> ask("mend", one, about(4), about(up(2) == 0 ? 10 : 100));
            default -> ask("hold", pair(), about(2));
        }
    }

    private void onShelves() {
        int shelf = about(6);
        switch (up(12)) {
            case 0 -> ask("body", about(8));
            case 1, 2 -> {
                ask("act", about(Math.max(1, model.count(4))), about(4), random.nextInt());
                ask("trace", about(10));
            }
            case 3 -> ask("keep", 3 + up(3), about(Math.max(1, model.count(4))));
            case 4 -> ask("row", 3 + up(3), about(5), about(30));
            case 5 -> ask("put", shelf, about(30), random.nextLong());
            case 6 -> ask("element", shelf, about(30));
            case 7, 8 -> ask("shift", shelf, about(9), up(2) == 0 ? shelf : about(6), about(9), about(9));
            case 9 -> ask("taken", shelf, about(8));
            case 10 -> ask("count", about(6));
            default -> ask("people", up(3), about(9), about(7) + 1);
        }
    }

    private boolean run() {
        int begin = up(10) == 0 ? 0 : 2 + up(most - 1);
        for (int i = 0; i < begin; i++) {
            ask("person", about(10), about(10));
        }
        if (up(4) > 0) {
            newRow(0, 3);
            newRow(1, 2);
        }
        while (!wrong && said.size() < CALLS) {
            int way = up(200);
            if (way == 0) {
                newLaw();
            } else if (way < 4) {
                newRow(up(3), up(3) == 0 ? 2 : 3);
            } else if (way == 4 && model.count(0) < most) {
                ask("person", about(10), about(10));
            } else if (way < 120) {
                inThought();
            } else if (way < 165) {
                inDeed();
            } else {
                onShelves();
            }
            if (way % 3 == 0 && model.count(0) > 0) {
                ask("of", about(model.count(0)), about(5));
            }
        }
        return !wrong;
    }

    /** Texts alone, many of them: what is no text is told at the same place by both. */
    private static boolean faultsAgree() {
        Random r = new Random(41);
        for (int i = 0; i < 300000; i++) {
            StringBuilder b = new StringBuilder();
            int n = r.nextInt(24);
            String signs = r.nextInt(2) == 0 ? "a1(-!)<+|?;" : "adohbn0129()!-+*/%<=>|&?;";
            for (int k = 0; k < n; k++) {
                boolean wants = k == 0 || "(!-+*/%<=>|&?;".indexOf(b.charAt(k - 1)) >= 0;
                String from = r.nextInt(12) == 0 ? signs : wants ? "a1(-!d2(!-" : ")<+|?;-=&*)1))";
                b.append(from.charAt(r.nextInt(from.length())));
            }
            MustDefendHim x = new MustDefendHim();
            int got = Check.law(x, b.toString());
            int fault = Model.fault(b.toString());
            if (got != (fault < 0 ? 1 : -100 - fault)) {
                System.out.println("law of " + b + " answered " + got + ", the model's fault is " + fault);
                return false;
            }
        }
        return true;
    }

    public static void main(String[] args) {
        int runs = args.length > 0 ? Integer.parseInt(args[0]) : RUNS;
        boolean good = faultsAgree();
        for (int seed = 0; seed < runs && good; seed++) {
            good = new ModelTest(seed).run();
        }
        System.out.println("ModelTest: " + (good ? "the class and the model agree" : "they differ"));
        if (!good) {
            System.exit(1);
        }
    }
}
