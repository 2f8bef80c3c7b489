import java.io.IOException;
import java.lang.reflect.Field;
import java.lang.reflect.Method;
import java.lang.reflect.Modifier;
import java.nio.file.Files;
import java.nio.file.Path;
import java.util.Arrays;
import java.util.List;
import java.util.TreeSet;
import java.util.regex.Matcher;
import java.util.regex.Pattern;

/** The face, and the rules of LANGUAGE.md that can be seen from the class and its file. */
public final class LanguageTest {
    private static final Due D = new Due("LanguageTest");
    private static final List<String> FACE = List.of(
        "int bid(int,int,int,int,int,int)", "int breath(int)", "int breaths()", "int buy(int,int)",
        "int cheapest(int,int,int)", "int clear()", "int costs(int)", "int count(int)", "int drawn(int,int)",
        "int forget()", "int from(int)", "int gives(int,int)", "int heard(int)", "int image(int)", "int odds(int)",
        "int of(int,int)", "int order(int)", "int page(int,int)", "int price(int)", "int purse(int)",
        "int put(int,int)", "int reach(int)", "int read()", "int readOut()", "int sell(int)", "int sentences(int)",
        "int shorter()", "int status(int)", "int stuck()", "int type(int)", "int undo()", "int week(int)",
        "int word(int)", "long digest()", "long part(int)");
    private static final String[] FORBIDDEN = {"\\bthrow\\b", "\\btry\\b", "\\bcatch\\b", "\\bsynchronized\\b",
        "\\bassert\\b", "->", "::", "\\w+Exact\\b", "\\bdouble\\b", "\\bfloat\\b", "\\bhashCode\\b", "\\btoString\\b",
        "\\bjava\\.(?!util\\.Arrays;)", "\\bString\\[\\]", "\\bSystem\\.(?!arraycopy)", "\\bMath\\.(?!min|max)",
        "\\bArrays\\.(?!fill|copyOf)"};

    public static void main(String[] args) throws IOException {
        face();
        insides();
        source(Files.readString(Path.of("src/main/java/SoldStops.java")));
        D.end();
    }

    private static String told(Method m) {
        String types = String.join(",", Arrays.stream(m.getParameterTypes()).map(Class::getName).toList());
        return m.getReturnType().getName() + " " + m.getName() + "(" + types + ")";
    }

    private static void face() {
        TreeSet<String> open = new TreeSet<>();
        for (Method m : SoldStops.class.getDeclaredMethods()) {
            if (!Modifier.isPrivate(m.getModifiers())) {
                open.add(told(m));
            }
        }
        D.due("the face " + open, open.equals(new TreeSet<>(FACE)) ? 1 : 0, 1);
        D.due("public and final", SoldStops.class.getModifiers() & (Modifier.PUBLIC | Modifier.FINAL), 17);
        D.due("constructors", SoldStops.class.getConstructors().length, 1);
        D.row("constants", new long[] {SoldStops.NONE, SoldStops.BAD, SoldStops.NO, SoldStops.FULL}, -1, -2, -3, -4);
        for (Field f : SoldStops.class.getDeclaredFields()) {
            boolean told = List.of("NONE", "BAD", "NO", "FULL").contains(f.getName());
            D.due("field " + f.getName(), told || Modifier.isPrivate(f.getModifiers()) ? 1 : 0, 1);
        }
    }

    private static void insides() {
        D.due("classes", SoldStops.class.getDeclaredClasses().length <= 11 ? 1 : 0, 1);
        for (Class<?> c : SoldStops.class.getDeclaredClasses()) {
            D.due(c + " is static", Modifier.isStatic(c.getModifiers()) ? 1 : 0, 1);
            D.due(c + " is not public", Modifier.isPublic(c.getModifiers()) ? 1 : 0, 0);
            for (Field f : c.getDeclaredFields()) {
                boolean state = Modifier.isStatic(f.getModifiers()) && !Modifier.isFinal(f.getModifiers());
                D.due(f + " is no static state", state ? 1 : 0, 0);
            }
            for (Method m : c.getDeclaredMethods()) {
                boolean again = FACE.stream().anyMatch(told -> told.contains(" " + m.getName() + "("));
                D.due(m + " bears a public name", again ? 1 : 0, 0);
                D.due(m + " has at most seven parameters", m.getParameterCount() <= 7 ? 1 : 0, 1);
            }
        }
    }

    private static void source(String source) {
        String code = source.replaceAll("(?s)/\\*.*?\\*/", "").replaceAll("//.*", "");
        for (String rule : FORBIDDEN) {
            Matcher m = Pattern.compile(rule).matcher(code);
            D.due("'" + rule + "' in the source", m.find() ? 1 : 0, 0);
        }
        D.due("signs beyond 127", source.chars().filter(c -> c > 127).count(), 0);
    }
}
