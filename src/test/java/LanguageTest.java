import java.lang.reflect.Constructor;
import java.lang.reflect.Field;
import java.lang.reflect.Method;
import java.lang.reflect.Modifier;
import java.nio.file.Files;
import java.nio.file.Path;
import java.util.ArrayList;
import java.util.Arrays;
import java.util.IdentityHashMap;
import java.util.List;
import java.util.Map;
import java.util.Set;
import java.util.TreeSet;
import java.util.regex.Matcher;
import java.util.regex.Pattern;

/**
 * The class against ../shared/LANGUAGE.md, as far as reflection and the text of the file can tell: the
 * face, the words that are not allowed, the sizes, and that only constructors make objects. It is run
 * where src/main/java/TruthKernel.java can be found.
 */
public final class LanguageTest {
    private static final Path FILE = Path.of("src/main/java/TruthKernel.java");
    private static final String CONSTANTS = "NO_SUCH=-1 BAD_VALUE=-2 BAD_TEXT=-3 TOO_MANY=-4 NOT_POSSIBLE=-5 NONE=-6 ALWAYS=0 IS=1 NOT=2 AT_MOST=3"
        + " AT_LEAST=4 SAME=5 UNLIKE=6 LESS=7 SUM=8 EVEN=9 PUT=0 COPY=1 SWAP=2";
    private static final String METHODS = "start(int,int,int)int wrap(int)int step(int,int,int,int,int)int drop(int)int candidate(int)int guess(int)int"
        + " run(int,int)int strike()int settle()int claim(int,int,int,int)int holds(int,int)int ofStep(int,int)int leads(int,int)int ofCandidate(int,int)int"
        + " count(int)int ofState(int)int proves(int)int witness(int)int isTrue(int)int needless()long core(int)long put(long)int wipe()int fault()int"
        + " carryOut()int undo()int save(int)int restore(int)int";

    private static int wrong;

    public static void main(String[] args) throws Exception {
        face();
        List<String> lines = withoutComments(Files.readString(FILE));
        words(lines);
        methods(lines);
        sizes();
        room();
        System.out.println("the language: " + wrong + " faults");
        System.exit(wrong == 0 ? 0 : 1);
    }

    private static void due(String what, boolean right) {
        if (!right) {
            wrong++;
            System.out.println("not as due: " + what);
        }
    }

    private static void face() throws Exception {
        Class<?> face = TruthKernel.class;
        due("a public final class", face.getModifiers() == (Modifier.PUBLIC | Modifier.FINAL));
        due("of no other class", face.getSuperclass() == Object.class && face.getInterfaces().length == 0);
        Set<String> constants = new TreeSet<>();
        for (Field f : face.getDeclaredFields()) {
            if (!Modifier.isPrivate(f.getModifiers())) {
                due("a constant: " + f, f.getModifiers() == (Modifier.PUBLIC | Modifier.STATIC | Modifier.FINAL) && f.getType() == int.class);
                constants.add(f.getName() + "=" + f.get(null));
            }
        }
        due("the constants: " + constants, constants.equals(new TreeSet<>(List.of(CONSTANTS.split(" ")))));
        Set<String> methods = new TreeSet<>();
        for (Method m : face.getDeclaredMethods()) {
            if (!Modifier.isPrivate(m.getModifiers()) && !m.isSynthetic()) {
                due("a public method: " + m, m.getModifiers() == Modifier.PUBLIC);
                methods.add(m.getName() + Arrays.toString(m.getParameterTypes()).replace(" ", "").replace('[', '(').replace(']', ')') + m.getReturnType());
            }
        }
        due("the methods: " + methods, methods.equals(new TreeSet<>(List.of(METHODS.split(" ")))));
        Constructor<?>[] made = face.getDeclaredConstructors();
        due("one public constructor", made.length == 1 && made[0].getModifiers() == Modifier.PUBLIC && made[0].getParameterCount() == 0);
    }

    private static List<String> withoutComments(String text) {
        return List.of(text.replaceAll("(?s)/\\*.*?\\*/", "").replaceAll("//[^\n]*", "").split("\n"));
    }

    private static void words(List<String> lines) {
        Pattern forbidden = Pattern.compile("\\b(throws?|try|catch|finally|synchronized|assert|import|package|instanceof|native|transient|volatile|var|yield"
            + "|Object|Exception|Error|System\\.(?!arraycopy)\\w+|equals|hashCode|toString|float|double|\\w+Exact)\\b|->|::|\"|@");
        for (String line : lines) {
            Matcher m = forbidden.matcher(line);
            due("a word that is not allowed: " + line.trim(), !m.find());
            due("a character that is not plain: " + line.trim(), line.chars().allMatch(c -> c >= 32 && c < 127));
        }
    }

    /** Methods are short, do not bear the name of a public one, and make no objects unless they are constructors. */
    private static void methods(List<String> lines) {
        Pattern head = Pattern.compile("( +)(?:(?:public|private|static|final) )*(?:([\\w\\[\\]]+) )?(\\w+)\\(([^()]*)\\) \\{");
        Set<String> faces = new TreeSet<>();
        for (Method m : TruthKernel.class.getDeclaredMethods()) {
            if (Modifier.isPublic(m.getModifiers())) {
                faces.add(m.getName());
            }
        }
        for (int i = 0; i < lines.size(); i++) {
            Matcher m = head.matcher(lines.get(i));
            if (!m.matches() || m.group(1).length() > 8) {
                due("an object made outside a constructor: " + lines.get(i).trim(), !lines.get(i).contains("new "));
                continue;
            }
            boolean constructor = m.group(2) == null || m.group(2).equals("public");
            due("the name of a public one: " + m.group(3), lines.get(i).contains("public ") || !faces.contains(m.group(3)));
            due("at most seven parameters: " + m.group(3), m.group(4).split(",").length <= 7);
            int from = i;
            while (!lines.get(i).equals(m.group(1) + "}")) {
                due("an object made outside a constructor: " + lines.get(i).trim(), constructor || !lines.get(i).contains("new "));
                i++;
            }
            due("at most sixty lines: " + m.group(3), i - from <= 60);
        }
    }

    private static void sizes() {
        Class<?>[] inside = TruthKernel.class.getDeclaredClasses();
        due("at most twelve classes", inside.length + 1 <= 12);
        List<Class<?>> all = new ArrayList<>(List.of(inside));
        all.add(TruthKernel.class);
        for (Class<?> c : all) {
            int fields = 0;
            for (Field f : c.getDeclaredFields()) {
                fields += Modifier.isStatic(f.getModifiers()) ? 0 : 1;
                due("a static field that is final: " + f, !Modifier.isStatic(f.getModifiers()) || Modifier.isFinal(f.getModifiers()) && f.getType() == int.class);
            }
            due("at most twenty fields: " + c, fields <= 20);
            due("static, and no class beside it: " + c, c == TruthKernel.class || Modifier.isStatic(c.getModifiers()) && Modifier.isPrivate(c.getModifiers()));
        }
    }

    /** As no call makes objects, an object's room is what its constructor makes. */
    private static void room() throws Exception {
        Map<Object, Boolean> found = new IdentityHashMap<>();
        long elements = measure(new TruthKernel(), found);
        System.out.println("room: " + found.size() + " objects and arrays, " + elements + " fields and elements");
        due("an object's room of objects", found.size() < 1000);
        due("an object's room of elements", elements < 20000);
    }

    private static long measure(Object o, Map<Object, Boolean> found) throws Exception {
        if (o == null || found.put(o, true) != null) {
            return 0;
        }
        long elements = 0;
        if (o.getClass().isArray()) {
            int length = java.lang.reflect.Array.getLength(o);
            elements = length;
            for (int i = 0; i < length && !o.getClass().getComponentType().isPrimitive(); i++) {
                elements += measure(java.lang.reflect.Array.get(o, i), found);
            }
            return elements;
        }
        for (Field f : o.getClass().getDeclaredFields()) {
            if (!Modifier.isStatic(f.getModifiers())) {
                f.setAccessible(true);
                elements += 1 + (f.getType().isPrimitive() ? 0 : measure(f.get(o), found));
            }
        }
        return elements;
    }
}
