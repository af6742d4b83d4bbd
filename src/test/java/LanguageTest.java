import java.io.IOException;
import java.lang.management.ManagementFactory;
import java.lang.reflect.Constructor;
import java.lang.reflect.Executable;
import java.lang.reflect.Field;
import java.lang.reflect.InvocationTargetException;
import java.lang.reflect.Method;
import java.lang.reflect.Modifier;
import java.nio.file.Files;
import java.nio.file.Path;
import java.util.ArrayList;
import java.util.HashSet;
import java.util.List;
import java.util.Random;
import java.util.Set;
import java.util.TreeSet;
import java.util.regex.Matcher;
import java.util.regex.Pattern;

/** The rules of LANGUAGE.md that a program can look at; it is run in the project's folder. */
public final class LanguageTest {
    private static final Check CHECK = new Check("LanguageTest");
    private static final String FACE = """
        int type(int,int)
        int wipe(int)
        int undo(int)
        int fault(int)
        int member(int,int)
        int cow(int,int)
        int feed(int,int,int)
        int back()
        int read(int)
        int at(int,int,int,int)
        int able(int,int,int)
        int house(int,int,int)
        int pusey(int)
        int weaned()
        int says(int)
        long power(int,int,int)
        int rear(int,int,int,int)
        int carry(int,int,int)
        int spare(int)
        int seen(int,int,int,int)
        int forget()
        int never()
        int sort(int)
        int first(int,int)
        int ask(int,int)
        long cream(int,int,int,int)
        int years(int,int,int)
        int sheet(int,int,int)
        int lose(int)
        int put(int,int,int,int)
        int get(int,int,int)
        int copy(int,int,int,int,int)
        int write(int,int,int)
        int count(int)
        long digest()
        """;

    private static String told(Method m) {
        StringBuilder s = new StringBuilder(m.getReturnType().getName()).append(' ').append(m.getName()).append('(');
        for (int i = 0; i < m.getParameterCount(); i++) {
            s.append(i > 0 ? "," : "").append(m.getParameterTypes()[i].getName());
        }
        return s.append(')').toString();
    }

    private static void face() {
        CHECK.promise("rule 1");
        Class<?> c = DairyCollege.class;
        CHECK.holds("the class is public and final", Modifier.isPublic(c.getModifiers()) && Modifier.isFinal(c.getModifiers()));
        Set<String> open = new TreeSet<>();
        Set<String> names = new HashSet<>();
        for (Method m : c.getDeclaredMethods()) {
            if (Modifier.isPrivate(m.getModifiers())) continue;
            open.add(told(m));
            names.add(m.getName());
            CHECK.holds(m.getName() + " is public and no static", Modifier.isPublic(m.getModifiers()) && !Modifier.isStatic(m.getModifiers()));
        }
        CHECK.holds("the methods are those of the document: " + open, open.equals(new TreeSet<>(List.of(FACE.strip().split("\n")))));
        Set<String> constants = new TreeSet<>();
        for (Field f : c.getDeclaredFields()) {
            if (!Modifier.isPrivate(f.getModifiers())) constants.add(f.getName());
        }
        CHECK.holds("the constants are those of the document", constants.equals(Set.of("NONE", "BAD", "NOT", "FULL")));
        Constructor<?>[] makers = c.getDeclaredConstructors();
        CHECK.holds("one public constructor", makers.length == 1 && Modifier.isPublic(makers[0].getModifiers()) && makers[0].getParameterCount() == 0);
        for (Class<?> each : allClasses()) {
            for (Method m : each.getDeclaredMethods()) {
                CHECK.holds(m + " bears no public name", Modifier.isPublic(m.getModifiers()) || !names.contains(m.getName()));
            }
        }
    }

    /** The open lines of the source are the document's face, word for word, under the headings that it tells. */
    private static void faceAsTold() throws IOException {
        CHECK.promise("The public face");
        String document = Files.readString(Path.of("../shared/DOC.md"));
        String face = document.substring(document.indexOf("```java\n") + 8);
        StringBuilder due = new StringBuilder();
        for (String line : face.substring(0, face.indexOf("\n}")).split("\n")) {
            Matcher m = Pattern.compile("(?:int|long) (\\w+)\\(").matcher(line);
            String heading = m.find() ? heading(document, m.group(1)) : "";
            due.append(heading).append(line.strip().replaceAll("\\);$", ") {")).append('\n');
        }
        StringBuilder got = new StringBuilder();
        for (String line : Files.readAllLines(Path.of("src/main/java/DairyCollege.java"))) {
            boolean own = line.equals("    // ---- what the calls above are made of");
            if (line.matches(" *(public|// ----) .*") && !own) got.append(line.strip()).append('\n');
        }
        CHECK.holds("the open lines are\n" + due + "and not\n" + got, got.toString().equals(due.toString()));
    }

    /** The heading that the document tells ahead of a call that is the first of its part; else nothing. */
    private static String heading(String document, String call) {
        Matcher m = Pattern.compile("Ahead of the calls `" + call + "`[^\n]* the interface says: (.*)\\.").matcher(document);
        return m.find() ? "// " + m.group(1) + "\n" : "";
    }

    private static List<Class<?>> allClasses() {
        List<Class<?>> all = new ArrayList<>();
        all.add(DairyCollege.class);
        for (Class<?> inner : DairyCollege.class.getDeclaredClasses()) all.add(inner);
        return all;
    }

    private static void sizes() {
        CHECK.promise("rules 2, 5, 11");
        CHECK.holds("at most twelve classes", allClasses().size() <= 12);
        for (Class<?> c : allClasses()) {
            int own = 0;
            for (Field f : c.getDeclaredFields()) {
                boolean fixed = Modifier.isStatic(f.getModifiers());
                own += fixed ? 0 : 1;
                CHECK.holds(f + " is final if static", !fixed || Modifier.isFinal(f.getModifiers()));
            }
            CHECK.holds(c.getName() + " has at most twenty fields", own <= 20);
            CHECK.holds(c.getName() + " is static", c == DairyCollege.class || Modifier.isStatic(c.getModifiers()));
            List<Executable> all = new ArrayList<>(List.of(c.getDeclaredMethods()));
            all.addAll(List.of(c.getDeclaredConstructors()));
            for (Executable e : all) CHECK.holds(e + " takes at most seven", e.getParameterCount() <= 7);
        }
    }

    private static void source() throws IOException {
        CHECK.promise("rules 4, 6, 11");
        String source = Files.readString(Path.of("src/main/java/DairyCollege.java"));
        String code = source.replaceAll("(?s)/\\*.*?\\*/", "").replaceAll("//[^\n]*", "");
        for (String word : new String[] {"throw", "throws", "try", "catch", "finally", "synchronized", "assert", "package", "instanceof", "Exact", "record", "protected"}) {
            CHECK.holds("no " + word, !Pattern.compile("\\b" + word + "\\b").matcher(code).find());
        }
        CHECK.holds("no lambda, no method reference", !code.contains("->") && !code.contains("::"));
        CHECK.holds("plain signs alone", source.chars().allMatch(b -> b == '\n' || b >= 32 && b < 127));
        Matcher imports = Pattern.compile("import ([^;]*);").matcher(code);
        while (imports.find()) {
            CHECK.holds("import of " + imports.group(1), Set.of("java.util.Arrays", "java.util.ArrayList", "java.util.List").contains(imports.group(1)));
        }
        String[] lines = source.split("\n");
        int start = -1;
        for (int i = 0; i < lines.length; i++) {
            if (lines[i].matches("( {4}| {8})[a-zA-Z].*\\) \\{")) start = i;
            if (start >= 0 && lines[i].matches("( {4}| {8})\\}")) {
                CHECK.holds("line " + (start + 1) + ": at most sixty lines", i - start + 1 <= 60);
                start = -1;
            }
        }
    }

    private static final int[] WILD = {Integer.MIN_VALUE, Integer.MIN_VALUE + 1, -61, -2, -1, 0, 1, 2, 3, 4, 5, 7, 8, 9, 10,
        16, 17, 19, 20, 47, 48, 57, 59, 60, 61, 105, 112, 114, 116, 119, 255, 256, Integer.MAX_VALUE};

    private static void wildCalls() throws IllegalAccessException {
        CHECK.promise("rule 7");
        Random random = new Random(1);
        List<Method> methods = new ArrayList<>();
        for (Method m : DairyCollege.class.getDeclaredMethods()) if (Modifier.isPublic(m.getModifiers())) methods.add(m);
        methods.sort((a, b) -> a.getName().compareTo(b.getName()));
        for (int run = 0; run < 400; run++) {
            DairyCollege x = ready(random.nextInt(9), random.nextInt(9), random);
            for (int i = 0; i < 300; i++) {
                Method m = methods.get(random.nextInt(methods.size()));
                Object[] args = new Object[m.getParameterCount()];
                int odds = random.nextInt(2);
                for (int k = 0; k < args.length; k++) args[k] = odds == 0 ? WILD[random.nextInt(WILD.length)] : WILD[5 + random.nextInt(5)];
                try {
                    m.invoke(x, args);
                } catch (InvocationTargetException e) {
                    CHECK.holds(m.getName() + " " + List.of(args) + " threw " + e.getCause(), false);
                }
            }
        }
        CHECK.holds("wild calls end", true);
    }

    private static DairyCollege ready(int members, int cows, Random random) {
        DairyCollege x = new DairyCollege();
        fill(x, 0, "pti", members, random);
        fill(x, 1, "wr", cows, random);
        for (int i = 0; i < 8; i++) x.feed(random.nextInt(20), random.nextInt(8), random.nextInt(8));
        for (int s = 0; s < 4; s++) x.sheet(s, random.nextInt(3), random.nextInt(61));
        return x;
    }

    private static void fill(DairyCollege x, int text, String letters, int n, Random random) {
        for (int i = 0; i < 6 * n - 1; i++) {
            x.type(text, i % 6 == 5 ? ';' : i % 6 == 0 ? letters.charAt(random.nextInt(letters.length())) : '0' + random.nextInt(10));
        }
    }

    /** What a run makes is never given back, so that calls had better make nothing at all. */
    private static void room() {
        CHECK.promise("rule 12");
        Random random = new Random(2);
        DairyCollege x = ready(8, 8, random);
        everyCall(x);
        com.sun.management.ThreadMXBean bean = (com.sun.management.ThreadMXBean) ManagementFactory.getThreadMXBean();
        long id = Thread.currentThread().getId();
        bean.getThreadAllocatedBytes(id);
        long before = bean.getThreadAllocatedBytes(id);
        for (int i = 0; i < 20; i++) everyCall(x);
        long made = bean.getThreadAllocatedBytes(id) - before;
        CHECK.holds("calls make nothing, but made bytes: " + made, made < 4096);
        before = bean.getThreadAllocatedBytes(id);
        DairyCollege y = new DairyCollege();
        made = bean.getThreadAllocatedBytes(id) - before;
        CHECK.holds("a new object is small, but has bytes: " + made, made < 12000 && y.count(0) == 0);
    }

    private static long sum = 0;

    private static void everyCall(DairyCollege x) {
        sum += x.undo(0) + x.type(0, '5') + x.fault(0) + x.member(0, 0) + x.cow(0, 0) + x.back() + x.feed(1, 1, 1) + x.read(0);
        sum += x.at(3, 3, 3, 3) + x.able(3, 3, 2) + x.house(3, 3, 2) + x.pusey(2) + x.weaned() + x.says(1) + x.power(7, 3, 1);
        sum += x.rear(3, 3, 9, 1) + x.carry(3, 3, 2) + x.spare(1) + x.seen(19, 0, 0, 5) + x.never() + x.sort(0) + x.first(0, 0);
        sum += x.ask(0, 0) + x.forget() + x.ask(0, 0) + x.cream(5, 19, 0, 0) + x.years(1, 8, 1) + x.sheet(0, 1, 60) + x.sheet(1, 1, 60);
        sum += x.put(0, 1, 5, 7) + x.get(0, 1, 5) + x.copy(0, 0, 1, 0, 60) + x.write(0, 0, 0) + x.count(6) + x.digest() + x.lose(0);
    }

    public static void main(String[] args) throws IOException, IllegalAccessException {
        face();
        faceAsTold();
        sizes();
        source();
        wildCalls();
        room();
        CHECK.end();
    }
}
