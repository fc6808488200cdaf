import java.io.IOException;
import java.io.StringWriter;
import java.lang.reflect.Field;
import java.lang.reflect.Method;
import java.lang.reflect.Modifier;
import java.net.URL;
import java.net.URLClassLoader;
import java.nio.file.Files;
import java.nio.file.Path;
import java.util.ArrayList;
import java.util.Comparator;
import java.util.List;
import java.util.regex.Matcher;
import java.util.regex.Pattern;
import java.util.stream.Collectors;
import java.util.stream.Stream;
import javax.tools.JavaCompiler;
import javax.tools.ToolProvider;

/**
 * README.md against the class: the lines of its examples are compiled as they stand, and each answers what
 * it says; its tables name each constant with its value and each call with its arguments, and tell texts as
 * they are read; its list names each test. It is run where README.md can be found.
 */
public final class ReadmeTest {
    private static final Path README = Path.of("README.md");
    private static final Path TESTS = Path.of("src/test/java");
    private static final int MOST_CALLS = 512;
    private static final String MAKES = "TruthKernel x = new TruthKernel();";
    private static final Pattern ASKS = Pattern.compile("(?:int (\\w+) = )?(x\\.\\w+\\(.*\\)); +// (-?\\d+|[A-Z_]+): \\S.*");

    private static int answers;
    private static int wrong;

    public static void main(String[] args) throws Exception {
        List<String> lines = Files.readAllLines(README);
        List<Example> examples = new ArrayList<>();
        String program = programOf(lines, examples);
        long[] got = answersOf(program, examples.size());
        for (int i = 0; i < got.length; i++) {
            Example e = examples.get(i);
            due("line " + e.line + ": " + e.call, got[i], e.due);
        }
        due("examples, if there are some", examples.size() >= 60 ? 1 : 0, 1);
        constants(lines);
        calls(lines);
        texts(lines);
        tests(lines);
        System.out.println("README.md: " + examples.size() + " examples, " + answers + " answers, " + wrong + " of them wrong");
        System.exit(wrong == 0 ? 0 : 1);
    }

    /** A line of an example with the answer that it tells. */
    private static final class Example {
        final int line;
        final String call;
        final long due;

        Example(int line, String call, long due) {
            this.line = line;
            this.call = call;
            this.due = due;
        }
    }

    private static void due(String what, long got, long due) {
        answers++;
        if (got != due) {
            wrong++;
            System.out.println("README.md: " + what + " answered " + got + ", due is " + due);
        }
    }

    /** The value of a constant of the class, or of a number that is written out. */
    private static int valueOf(String word) throws Exception {
        if (word.matches("-?\\d+")) {
            return Integer.parseInt(word);
        }
        return TruthKernel.class.getField(word).getInt(null);
    }

    /** A class that keeps the answer of each line; a line that makes an object begins a block of its own. */
    private static String programOf(List<String> lines, List<Example> examples) throws Exception {
        StringBuilder helpers = new StringBuilder();
        StringBuilder body = new StringBuilder();
        int calls = 0;
        boolean inside = false, helper = false;
        for (int i = 0; i < lines.size(); i++) {
            String line = lines.get(i);
            if (line.startsWith("```")) {
                due("line " + (i + 1) + ", if a block is of java and closed", !inside == line.equals("```java") ? 1 : 0, 1);
                inside = !inside;
                helper = inside && lines.get(i + 1).startsWith("static ");
            } else if (helper) {
                helpers.append(line).append('\n');
            } else if (inside && line.equals(MAKES)) {
                body.append("}\n{ ").append(line).append('\n');
                calls = 0;
            } else if (inside) {
                calls += line.split("\\bx\\.").length - 1;
                due("line " + (i + 1) + ", if its object has calls left", calls <= MOST_CALLS ? 1 : 0, 1);
                addExample(i + 1, line, examples, body);
            }
        }
        return "public final class ReadmeExamples {\n" + helpers + "public static void ask(long[] got) {\n{\n" + body + "}\n}\n}\n";
    }

    private static void addExample(int number, String line, List<Example> examples, StringBuilder body) throws Exception {
        Matcher m = ASKS.matcher(line);
        if (!m.matches()) {
            due("line " + number + ", if it tells its answer (" + line + ")", 0, 1);
            return;
        }
        String kept = "got[" + examples.size() + "] = ";
        if (m.group(1) == null) {
            body.append(kept).append(m.group(2)).append(";\n");
        } else {
            body.append("int ").append(m.group(1)).append(" = ").append(m.group(2)).append("; ").append(kept).append(m.group(1)).append(";\n");
        }
        examples.add(new Example(number, m.group(2), valueOf(m.group(3))));
    }

    private static long[] answersOf(String program, int many) throws Exception {
        Path made = Files.createTempDirectory("readme");
        try {
            Path file = Files.writeString(made.resolve("ReadmeExamples.java"), program);
            JavaCompiler compiler = ToolProvider.getSystemJavaCompiler();
            StringWriter told = new StringWriter();
            boolean compiled;
            try (var files = compiler.getStandardFileManager(null, null, null)) {
                List<String> options = List.of("-d", made.toString(), "-cp", System.getProperty("java.class.path"));
                compiled = compiler.getTask(told, files, null, options, null, files.getJavaFileObjects(file)).call();
            }
            long[] got = new long[many];
            due("the examples, if they can be compiled: " + told, compiled ? 1 : 0, 1);
            if (compiled) {
                try (URLClassLoader loader = new URLClassLoader(new URL[] {made.toUri().toURL()})) {
                    loader.loadClass("ReadmeExamples").getMethod("ask", long[].class).invoke(null, (Object) got);
                }
            }
            return got;
        } finally {
            remove(made);
        }
    }

    private static void remove(Path made) throws IOException {
        List<Path> all;
        try (Stream<Path> walk = Files.walk(made)) {
            all = walk.sorted(Comparator.reverseOrder()).collect(Collectors.toList());
        }
        for (Path p : all) {
            Files.delete(p);
        }
    }

    /** Each row "| `NAME` | value |", and each constant once in one. */
    private static void constants(List<String> lines) throws Exception {
        Pattern row = Pattern.compile("\\| `([A-Z_]+)` \\| (-?\\d+) \\| .*");
        List<String> told = new ArrayList<>();
        for (String line : lines) {
            Matcher m = row.matcher(line);
            if (m.matches()) {
                due(m.group(1), Integer.parseInt(m.group(2)), valueOf(m.group(1)));
                told.add(m.group(1));
            }
        }
        for (Field f : TruthKernel.class.getFields()) {
            due("rows of " + f.getName(), told.stream().filter(f.getName()::equals).count(), 1);
        }
    }

    /** Each row "| `name(arguments)` | words | errors |", and each method once in one. */
    private static void calls(List<String> lines) {
        Pattern row = Pattern.compile("\\| `(\\w+)\\(([\\w, ]*)\\)` \\| .* \\|.*\\|");
        List<String> told = new ArrayList<>();
        for (String line : lines) {
            Matcher m = row.matcher(line);
            if (m.matches()) {
                told.add(m.group(1) + " " + (m.group(2).isEmpty() ? 0 : m.group(2).split(", ").length));
            }
        }
        List<String> there = new ArrayList<>();
        for (Method m : TruthKernel.class.getDeclaredMethods()) {
            if (Modifier.isPublic(m.getModifiers())) {
                there.add(m.getName() + " " + m.getParameterCount());
            }
        }
        for (String call : there) {
            due("rows of the call " + call, told.stream().filter(call::equals).count(), 1);
        }
        due("rows of calls", told.size(), there.size());
    }

    /** Each row "| `text` | `claim(FORM, x, y, k)` |" or "| `text` | `step(guard, HOW, x, y, k)` |". */
    private static void texts(List<String> lines) throws Exception {
        Pattern row = Pattern.compile("\\| `(\\S{1,5})` \\| `(claim\\(|step\\(guard, )([A-Z_]+), (\\d), (\\d), (-?\\d)\\)` \\|");
        List<String> told = new ArrayList<>();
        for (String line : lines) {
            Matcher m = row.matcher(line);
            if (m.matches()) {
                int kind = valueOf(m.group(3)), x = valueOf(m.group(4)), y = valueOf(m.group(5)), k = valueOf(m.group(6));
                if (m.group(2).startsWith("claim")) {
                    claimText(m.group(1), kind, x, y, k);
                } else {
                    actionText(m.group(1), kind, x, y, k);
                }
                told.add(m.group(3));
            }
        }
        for (Field f : TruthKernel.class.getFields()) {
            due("texts of " + f.getName(), Math.min(1, told.stream().filter(f.getName()::equals).count()), f.getInt(null) >= 0 ? 1 : 0);
        }
    }

    private static void claimText(String text, int form, int x, int y, int k) {
        TruthKernel kernel = new TruthKernel();
        kernel.put(signs("c" + text));
        due("orders of \"c" + text + "\"", kernel.carryOut(), 1);
        due("the claim " + text, kernel.ofCandidate(0, 0), kernel.claim(form, x, y, k));
    }

    private static void actionText(String text, int how, int x, int y, int k) {
        TruthKernel kernel = new TruthKernel();
        kernel.put(signs("s*:" + text));
        due("orders of \"s*:" + text + "\"", kernel.carryOut(), 1);
        int[] due = {7, how, x, y, k + 7};
        for (int what = 0; what < due.length; what++) {
            due("the action " + text + ", " + what, kernel.ofStep(0, what), due[what]);
        }
    }

    private static long signs(String text) {
        long number = 0;
        for (int i = 0; i < text.length(); i++) {
            number = 256 * number + text.charAt(i);
        }
        return number;
    }

    private static void tests(List<String> lines) throws IOException {
        List<String> names;
        try (Stream<Path> files = Files.list(TESTS)) {
            names = files.map(f -> f.getFileName().toString()).sorted().collect(Collectors.toList());
        }
        String list = String.join("\n", lines.subList(lines.indexOf("## How to run its tests"), lines.size()));
        for (String name : names) {
            due("the list, if it names " + name, list.contains("`" + name.replace(".java", "") + "`") ? 1 : 0, 1);
        }
    }
}
