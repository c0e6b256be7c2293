import java.io.IOException;
import java.lang.reflect.Constructor;
import java.lang.reflect.Field;
import java.lang.reflect.Method;
import java.lang.reflect.Modifier;
import java.nio.file.Files;
import java.nio.file.Path;
import java.util.HashSet;
import java.util.Set;
import java.util.TreeSet;

/** The public face, and the rules of LANGUAGE.md that can be seen without reading closely. */
public final class FaceTest {
    private static final Check check = new Check("FaceTest");
    private static final String FACE = "int person(int int);int people(int int int);"
            + "int mend(int int int);int of(int int);int feed(int);int law();int wins(int int);"
            + "int course(int int);int ends(int int int);int best(int int);long beside(int int);"
            + "int tillBound(int);int round();int sure(int);int charges(int int);"
            + "int days(int int);int quiet(int int);int judge(int);int roll(int int);"
            + "int sold(int);int friend(int int);int drawn(int int int int);int hold(int int);"
            + "int release(int);int year();int led(int);int image();int back();int undo();"
            + "int redo();int body(int);int act(int int int);int trace(int);int keep(int int);"
            + "int row(int int int);int put(int int long);long element(int int);"
            + "int shift(int int int int int);int taken(int int);int count(int)";

    public static void main(String[] args) throws IOException {
        constants();
        face();
        inside();
        words();
        check.end();
    }

    private static void constants() {
        check.due("BAD", -1, MustDefendHim.BAD);
        check.due("NOT", -2, MustDefendHim.NOT);
        check.due("FULL", -3, MustDefendHim.FULL);
        check.due("STATE", -5, MustDefendHim.STATE);
        check.due("VOID", -2000000000, MustDefendHim.VOID);
    }

    private static void face() {
        Set<String> want = new TreeSet<>(Set.of(FACE.split(";")));
        Set<String> got = new TreeSet<>();
        for (Method m : MustDefendHim.class.getDeclaredMethods()) {
            if (!Modifier.isPrivate(m.getModifiers())) {
                StringBuilder b = new StringBuilder(m.getReturnType() + " " + m.getName() + "(");
                for (Class<?> type : m.getParameterTypes()) {
                    b.append(b.charAt(b.length() - 1) == '(' ? "" : " ").append(type);
                }
                got.add(b.append(")").toString());
                check.holds(m + " is public", Modifier.isPublic(m.getModifiers()));
            }
        }
        check.holds("the face is the document's: " + got, got.equals(want));
        for (Field f : MustDefendHim.class.getDeclaredFields()) {
            boolean constant = Set.of("BAD", "NOT", "FULL", "STATE", "VOID").contains(f.getName());
            check.holds(f + " is as visible as it may be",
                    constant ? Modifier.isPublic(f.getModifiers()) : Modifier.isPrivate(f.getModifiers()));
        }
        for (Constructor<?> c : MustDefendHim.class.getDeclaredConstructors()) {
            check.holds(c + " is the one", Modifier.isPublic(c.getModifiers()) && c.getParameterCount() == 0);
        }
        check.holds("final", Modifier.isFinal(MustDefendHim.class.getModifiers()));
    }

    private static void inside() {
        Set<String> names = new HashSet<>();
        for (Method m : MustDefendHim.class.getDeclaredMethods()) {
            if (Modifier.isPublic(m.getModifiers())) {
                names.add(m.getName());
            }
        }
        Class<?>[] inner = MustDefendHim.class.getDeclaredClasses();
        check.holds("some twelve classes", inner.length + 1 <= 12);
        for (Class<?> c : inner) {
            check.holds(c + " is static and private",
                    Modifier.isStatic(c.getModifiers()) && Modifier.isPrivate(c.getModifiers()));
            for (Method m : c.getDeclaredMethods()) {
                check.holds(m + " has a name of its own", !names.contains(m.getName()));
                check.holds(m + " takes seven at most", m.getParameterCount() <= 7);
            }
            for (Field f : c.getDeclaredFields()) {
                check.holds(f + " is final if static",
                        !Modifier.isStatic(f.getModifiers()) || Modifier.isFinal(f.getModifiers()));
            }
        }
    }

    private static void words() throws IOException {
        String source = Files.readString(Path.of("src/main/java/MustDefendHim.java"));
        String code = source.replaceAll("(?s)/\\*.*?\\*/", " ").replaceAll("//[^\n]*", " ");
        for (String word : "throw try catch synchronized assert import package double float".split(" ")) {
            check.holds("no " + word, !code.matches("(?s).*\\b" + word + "\\b.*"));
        }
        check.holds("no lambda", !code.contains("->"));
        check.holds("no method reference", !code.contains("::"));
        check.holds("signs 1 to 127", code.chars().allMatch(c -> c > 0 && c < 128));
    }
}
