import java.io.IOException;
import java.lang.reflect.Method;
import java.lang.reflect.Modifier;
import java.nio.file.Files;
import java.nio.file.Path;
import java.util.HashMap;
import java.util.List;
import java.util.Map;
import java.util.regex.Matcher;
import java.util.regex.Pattern;
import java.util.stream.Collectors;
import java.util.stream.Stream;

/** README.md against the class: its example answers what it says, and it tells of all; it is run in the project's folder. */
public final class ReadmeTest {
    private static final Check CHECK = new Check("ReadmeTest");
    private static final Pattern TYPED = Pattern.compile("for \\(char b : \"(.*)\"\\.toCharArray\\(\\)\\) x\\.type\\(([01]), b\\);");
    private static final Pattern CALL = Pattern.compile("x\\.(\\w+)\\((.*)\\); +// ([-\\w]+): .*");
    private static final Map<String, Method> METHODS = new HashMap<>();

    private static String block(String page, String language) {
        Matcher m = Pattern.compile("(?s)```" + language + "\n(.*?)```").matcher(page);
        return m.find() ? m.group(1) : "";
    }

    private static long number(String s) throws ReflectiveOperationException {
        String name = s.replace("DairyCollege.", "");
        return name.matches("[A-Z]+") ? DairyCollege.class.getField(name).getInt(null) : Long.parseLong(name);
    }

    private static void call(DairyCollege x, Matcher line) throws ReflectiveOperationException {
        List<String> words = line.group(2).isEmpty() ? List.of() : List.of(line.group(2).split(", "));
        Object[] numbers = new Object[words.size()];
        for (int i = 0; i < numbers.length; i++) numbers[i] = (int) number(words.get(i));
        Number got = (Number) METHODS.get(line.group(1)).invoke(x, numbers);
        CHECK.due(line.group(1) + "(" + line.group(2) + ")", got.longValue(), number(line.group(3)));
    }

    private static void example(String page) throws ReflectiveOperationException {
        CHECK.promise("the example");
        String[] lines = block(page, "java").split("\n");
        CHECK.holds("it begins with a new object", lines[0].equals("DairyCollege x = new DairyCollege();"));
        CHECK.holds("it has calls", lines.length > 20);
        DairyCollege x = new DairyCollege();
        for (int i = 1; i < lines.length; i++) {
            Matcher typed = TYPED.matcher(lines[i]);
            Matcher call = CALL.matcher(lines[i]);
            if (typed.matches()) {
                for (char b : typed.group(1).toCharArray()) x.type(Integer.parseInt(typed.group(2)), b);
            } else if (call.matches() && METHODS.containsKey(call.group(1))) {
                call(x, call);
            } else {
                CHECK.holds("a line that can be read: " + lines[i], false);
            }
        }
    }

    /** Each call as the document's face has it, without its types. */
    private static void calls(String page) throws IOException {
        CHECK.promise("the calls");
        Matcher m = Pattern.compile("public (?:int|long) (\\w+\\(.*\\));").matcher(block(Files.readString(Path.of("../shared/DOC.md")), "java"));
        int n = 0;
        for (; m.find(); n++) {
            String call = m.group(1).replace("int ", "");
            CHECK.holds(call + " is told of", page.contains("`" + call + "`"));
        }
        CHECK.due("calls of the face", n, METHODS.size());
    }

    private static void tests(String page) throws IOException {
        CHECK.promise("the tests");
        CHECK.holds(".ci/run is told of", page.contains("`.ci/run`") && Files.isExecutable(Path.of(".ci/run")));
        try (Stream<Path> files = Files.list(Path.of("src/test/java"))) {
            for (String file : files.map(f -> f.getFileName().toString()).collect(Collectors.toList())) {
                boolean runs = file.endsWith("Test.java");
                CHECK.holds(file + " is told of", !runs || page.contains("| `" + file.replace(".java", "") + "` |"));
            }
        }
    }

    public static void main(String[] args) throws IOException, ReflectiveOperationException {
        for (Method m : DairyCollege.class.getDeclaredMethods()) {
            if (Modifier.isPublic(m.getModifiers())) METHODS.put(m.getName(), m);
        }
        String page = Files.readString(Path.of("README.md"));
        example(page);
        calls(page);
        tests(page);
        CHECK.end();
    }
}
