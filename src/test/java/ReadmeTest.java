import java.io.File;
import java.lang.reflect.Method;
import java.lang.reflect.Modifier;
import java.nio.file.Files;
import java.nio.file.Path;
import java.util.HashMap;
import java.util.Map;
import java.util.Set;
import java.util.TreeSet;
import java.util.regex.Matcher;
import java.util.regex.Pattern;

/** What README.md says is so: its example, its calls and constants, its tests, the room that it tells. */
public final class ReadmeTest {
    private static final Check check = new Check();

    public static void main(String[] args) throws Exception {
        String text = Files.readString(Path.of("README.md"));
        example(text);
        calls(text);
        constants(text);
        tests(text);
        room(text);
        check.end("ReadmeTest");
    }

    /** Every line of the example but the first, that makes the object, is a call with its answer behind it. */
    private static void example(String text) {
        Matcher block = Pattern.compile("(?s)```java\n(.*?)```").matcher(text);
        check.holds("there is an example", block.find());
        Pattern call = Pattern.compile("(?:int (\\w+) = )?v\\.(\\w+)\\(([^)]*)\\);\\s+// (-?\\d+): .*");
        Asked v = new Asked();
        Map<String, Integer> names = new HashMap<>(Map.of("true", 1, "false", 0));
        String[] lines = block.group(1).split("\n");
        for (int i = 1; i < lines.length; i++) {
            Matcher m = call.matcher(lines[i]);
            boolean told = m.matches();
            check.holds("a call and its answer: " + lines[i], told);
            if (!told) {
                continue;
            }
            long answer = v.ask(m.group(2), numbers(m.group(3), names));
            check.due(lines[i], answer, Long.parseLong(m.group(4)));
            if (m.group(1) != null) {
                names.put(m.group(1), (int) answer);
            }
        }
    }

    private static int[] numbers(String told, Map<String, Integer> names) {
        String[] words = told.isEmpty() ? new String[0] : told.split(", ");
        int[] numbers = new int[words.length];
        for (int i = 0; i < words.length; i++) {
            numbers[i] = names.containsKey(words[i]) ? names.get(words[i]) : Integer.parseInt(words[i]);
        }
        return numbers;
    }

    private static void calls(String text) {
        Set<String> told = new TreeSet<>();
        Matcher row = Pattern.compile("(?m)^\\| `(\\w+)\\(([^)]*)\\)` \\|").matcher(text);
        while (row.find()) {
            int numbers = row.group(2).isEmpty() ? 0 : row.group(2).split(", ").length;
            check.holds("told once: " + row.group(1), told.add(row.group(1) + " " + numbers));
        }
        Set<String> face = new TreeSet<>();
        for (Method m : GasVoyages.class.getDeclaredMethods()) {
            if (Modifier.isPublic(m.getModifiers())) {
                face.add(m.getName() + " " + m.getParameterCount());
            }
        }
        check.holds("the calls told are those of the face: " + told, told.equals(face));
    }

    private static void constants(String text) throws Exception {
        Matcher row = Pattern.compile("(?m)^\\| `([A-Z]+)` \\| (-?\\d+) \\|").matcher(text);
        int told = 0;
        while (row.find()) {
            told++;
            int is = GasVoyages.class.getField(row.group(1)).getInt(null);
            check.due(row.group(1), Integer.parseInt(row.group(2)), is);
        }
        check.due("constants told", told, 4);
    }

    /** Each file of src/test/java is named, and the tests of the tables are all there. */
    private static void tests(String text) {
        Set<String> told = new TreeSet<>();
        Matcher row = Pattern.compile("(?m)^\\| `(\\w+Test)` \\|").matcher(text);
        while (row.find()) {
            told.add(row.group(1));
        }
        Set<String> there = new TreeSet<>();
        String[] files = new File("src/test/java").list();
        check.holds("there are tests", files != null);
        for (String file : files == null ? new String[0] : files) {
            String name = file.replace(".java", "");
            check.holds("named: " + name, text.contains("`" + name + "`"));
            if (name.endsWith("Test")) {
                there.add(name);
            }
        }
        check.holds("the tests told are those there: " + told, told.equals(there));
        check.holds("it tells what runs them all", text.contains("\n.ci/run\n") && new File(".ci/run").canExecute());
    }

    private static void room(String text) throws Exception {
        Pattern told = Pattern.compile("([0-9,]+)\\s+fields\\s+and\\s+elements\\s+in\\s+(\\d+)\\s+objects\\s+and\\s+arrays");
        Matcher m = told.matcher(text);
        boolean is = m.find();
        check.holds("the room is told", is);
        if (is) {
            Room room = new Room(new GasVoyages());
            check.due("elements told", Integer.parseInt(m.group(1).replace(",", "")), room.elements());
            check.due("objects told", Integer.parseInt(m.group(2)), room.objects());
        }
    }
}
