import java.lang.reflect.Field;
import java.lang.reflect.Method;
import java.lang.reflect.Modifier;
import java.nio.file.Files;
import java.nio.file.Path;
import java.util.Arrays;
import java.util.Set;
import java.util.TreeSet;
import java.util.regex.Matcher;
import java.util.regex.Pattern;

/** The public face of the document, and those rules of LANGUAGE.md that can be read off the class and its text. */
public final class FaceTest {
    private static final Check check = new Check();
    private static final String[] FACE = {
        "int land(int, int)", "int cell(int, int, int)", "int level(int, int, int)", "int warmth(int, int)",
        "int wind(boolean, int, int, int, int, int)", "int fly(int, int, int, int, int, int)",
        "int go(int, int, int, int)", "int about(int, int)", "int distance(int)",
        "int plan(int, int, int, int, int)", "int away(int, int, int)", "int order(int)",
        "int entry(int, int, int)", "int lose(int, int, int)", "int judge(int)", "int ways(int, boolean)",
        "int chaser(int, int, int)", "int chase(int, int, int)", "int first(int)", "int record(int)",
        "int count(int)", "long digest()"};
    private static final String[] FORBIDDEN = {
        "\\bthrow\\b", "\\btry\\b", "\\bcatch\\b", "\\bsynchronized\\b", "\\bassert\\b", "->", "::", "Exact\\b",
        "\\bprotected\\b", "\\bpackage\\b", "\\bnative\\b", "System\\.(?!arraycopy)", "Math\\.random", "\\bThread\\b"};

    public static void main(String[] args) throws Exception {
        constants();
        members();
        nestedClasses();
        text();
        check.end("FaceTest");
    }

    private static void constants() {
        check.due("NONE", GasVoyages.NONE, -1);
        check.due("BAD", GasVoyages.BAD, -2);
        check.due("NO", GasVoyages.NO, -3);
        check.due("FULL", GasVoyages.FULL, -4);
    }

    private static void members() {
        Class<?> c = GasVoyages.class;
        check.holds("public and final", Modifier.isPublic(c.getModifiers()) && Modifier.isFinal(c.getModifiers()));
        check.due("constructors", c.getDeclaredConstructors().length, 1);
        check.due("public constructors", c.getConstructors().length, 1);
        Set<String> open = new TreeSet<>();
        Set<String> openNames = new TreeSet<>();
        for (Method m : c.getDeclaredMethods()) {
            if (!Modifier.isPrivate(m.getModifiers())) {
                open.add(told(m));
                openNames.add(m.getName());
                check.holds("public, not static: " + told(m), m.getModifiers() == Modifier.PUBLIC);
            }
        }
        check.holds("methods of the face: " + open, open.equals(new TreeSet<>(Arrays.asList(FACE))));
        for (Method m : c.getDeclaredMethods()) {
            boolean hidden = Modifier.isPrivate(m.getModifiers());
            check.holds("a name of its own: " + m.getName(), !hidden || !openNames.contains(m.getName()));
        }
        Set<String> fields = new TreeSet<>();
        for (Field f : c.getDeclaredFields()) {
            if (!Modifier.isPrivate(f.getModifiers())) {
                fields.add(f.getName());
            }
            check.holds("static is final: " + f.getName(),
                !Modifier.isStatic(f.getModifiers()) || Modifier.isFinal(f.getModifiers()));
        }
        check.holds("constants of the face: " + fields,
            fields.equals(new TreeSet<>(Arrays.asList("NONE", "BAD", "NO", "FULL"))));
    }

    private static String told(Method m) {
        StringBuilder s = new StringBuilder(m.getReturnType() + " " + m.getName() + "(");
        for (Class<?> p : m.getParameterTypes()) {
            s.append(s.charAt(s.length() - 1) == '(' ? "" : ", ").append(p);
        }
        return s.append(")").toString();
    }

    private static void nestedClasses() {
        Class<?>[] inside = GasVoyages.class.getDeclaredClasses();
        check.holds("some twelve classes", inside.length <= 11);
        for (Class<?> c : inside) {
            check.holds("static: " + c, Modifier.isStatic(c.getModifiers()));
            int fields = 0;
            for (Field f : c.getDeclaredFields()) {
                fields += Modifier.isStatic(f.getModifiers()) ? 0 : 1;
            }
            check.holds("some twenty fields: " + c, fields <= 20);
            for (Method m : c.getDeclaredMethods()) {
                check.holds("seven parameters: " + m, m.getParameterCount() <= 7);
            }
        }
    }

    private static void text() throws Exception {
        String source = Files.readString(Path.of("src/main/java/GasVoyages.java"));
        String code = source.replaceAll("(?s)/\\*.*?\\*/", "").replaceAll("//[^\n]*", "");
        for (String word : FORBIDDEN) {
            Matcher m = Pattern.compile(word).matcher(code);
            check.holds("not in the text: " + word, !m.find());
        }
        Matcher imports = Pattern.compile("import ([^;]*);").matcher(code);
        while (imports.find()) {
            check.holds("import " + imports.group(1), imports.group(1).equals("java.util.Arrays"));
        }
        for (int i = 0; i < source.length(); i++) {
            if (source.charAt(i) > 127) {
                check.holds("plain letters alone", false);
            }
        }
    }
}
