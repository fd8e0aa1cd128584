import java.lang.management.ManagementFactory;
import java.lang.reflect.Constructor;
import java.lang.reflect.Field;
import java.lang.reflect.Method;
import java.lang.reflect.Modifier;
import java.nio.file.Files;
import java.nio.file.Path;
import java.util.ArrayList;
import java.util.List;
import java.util.Random;
import java.util.Set;
import java.util.TreeSet;
import java.util.regex.Matcher;
import java.util.regex.Pattern;

/** What of ../shared/LANGUAGE.md can be seen in the source, in the compiled class and in what a run makes. */
public final class LanguageTest {
    private static final Path SOURCE = Path.of("src/main/java/ValuePlaces.java");
    private static final Due due = new Due("LanguageTest");

    public static void main(String[] args) throws Exception {
        String code = withoutComments(Files.readString(SOURCE));
        words(code);
        methodsAreShort(code);
        constants();
        face();
        order();
        membersInside();
        callsMakeNothing();
        due.end();
    }

    private static String withoutComments(String text) {
        return text.replaceAll("(?s)/\\*.*?\\*/", "").replaceAll("//[^\n]*", "");
    }

    private static void words(String code) {
        String[] ruledOut = {"\\bthrow\\b", "\\bthrows\\b", "\\btry\\b", "\\bcatch\\b", "\\bsynchronized\\b",
            "\\bassert\\b", "->", "::", "Exact\\b", "\\bpackage\\b", "\\bvar\\b", "@", "\\bprotected\\b",
            "\\bThread\\b", "\\bRandom\\b", "\\bSystem\\.(?!arraycopy)", "\\bObject\\b", "\\bhashCode\\b",
            "\\bstatic\\s*\\{", "\\bwhile\\s*\\(\\s*true"};
        for (String word : ruledOut) {
            due.is("the source has " + word, Pattern.compile(word).matcher(code).find() ? 1 : 0, 0);
        }
        Matcher imports = Pattern.compile("\\bimport\\s+([\\w.]+);").matcher(code);
        Set<String> allowed = Set.of("java.util.Arrays", "java.util.ArrayList", "java.util.List", "java.util.Iterator");
        while (imports.find()) {
            due.is("import " + imports.group(1), allowed.contains(imports.group(1)) ? 1 : 0, 1);
        }
        due.is("signs above 127", code.chars().filter(c -> c > 127).count(), 0);
    }

    private static void methodsAreShort(String code) {
        String[] rows = code.split("\n", -1);
        int start = -1;
        String end = "";
        for (int r = 0; r < rows.length; r++) {
            Matcher head = Pattern.compile("^( +)[\\w\\[\\] ]+\\(([^)]*)\\) \\{$").matcher(rows[r]);
            if (start < 0 && head.matches() && !rows[r].trim().startsWith("else")) {
                start = r;
                end = head.group(1) + "}";
                due.is("parameters of " + rows[r].trim(), head.group(2).split(",").length > 7 ? 1 : 0, 0);
            } else if (start >= 0 && rows[r].equals(end)) {
                due.is("over 60 lines: " + rows[start].trim(), r - start > 60 ? 1 : 0, 0);
                start = -1;
            }
        }
    }

    private static void constants() {
        due.is("UNKNOWN", ValuePlaces.UNKNOWN, -1);
        due.is("OUTSIDE", ValuePlaces.OUTSIDE, -2);
        due.is("STATE", ValuePlaces.STATE, -3);
        due.is("FULL", ValuePlaces.FULL, -4);
        due.is("NONE", ValuePlaces.NONE, -9);
        due.is("LOST", ValuePlaces.LOST, Long.MIN_VALUE);
    }

    private static String signature(Method m) {
        StringBuilder text = new StringBuilder(m.getReturnType().getName()).append(' ').append(m.getName());
        for (Class<?> type : m.getParameterTypes()) {
            text.append(' ').append(type.getName());
        }
        return text.toString();
    }

    private static Set<String> documentsMethods() throws Exception {
        Set<String> set = new TreeSet<>();
        Matcher m = Pattern.compile("\n    public (int|long) (\\w+)\\(([^)]*)\\);")
            .matcher(Files.readString(Path.of("../shared/DOC.md")));
        while (m.find()) {
            set.add(m.group(1) + " " + m.group(2) + m.group(3).replaceAll("int \\w+", " int").replace(", ", ""));
        }
        return set;
    }

    private static void face() throws Exception {
        Class<?> c = ValuePlaces.class;
        due.is("public final", c.getModifiers() & (Modifier.PUBLIC | Modifier.FINAL), Modifier.PUBLIC | Modifier.FINAL);
        Set<String> methods = new TreeSet<>();
        Set<String> names = new TreeSet<>();
        for (Method m : c.getDeclaredMethods()) {
            if (Modifier.isPublic(m.getModifiers())) {
                methods.add(signature(m));
                names.add(m.getName());
            }
        }
        Set<String> want = documentsMethods();
        due.is("methods of the document", want.size(), 28);
        due.is("the document's methods " + want + " and no others " + methods, want.equals(methods) ? 1 : 0, 1);
        for (Method m : c.getDeclaredMethods()) {
            if (!Modifier.isPublic(m.getModifiers())) {
                due.is(m.getName() + " is private", Modifier.isPrivate(m.getModifiers()) ? 1 : 0, 1);
                due.is(m.getName() + " bears a public name", names.contains(m.getName()) ? 1 : 0, 0);
            }
        }
        Set<String> open = new TreeSet<>();
        for (Field f : c.getDeclaredFields()) {
            if (!Modifier.isPrivate(f.getModifiers())) {
                open.add(f.getName());
                due.is(f.getName() + " is public", Modifier.isPublic(f.getModifiers()) ? 1 : 0, 1);
            }
        }
        due.is("constants " + open, open.equals(Set.of("UNKNOWN", "OUTSIDE", "STATE", "FULL", "NONE", "LOST")) ? 1 : 0, 1);
        Constructor<?>[] made = c.getDeclaredConstructors();
        due.is("constructors", made.length, 1);
        due.is("it is public", Modifier.isPublic(made[0].getModifiers()) ? 1 : 0, 1);
    }

    /** The calls stand in the document's order, behind the words that it has ahead of each part. */
    private static void order() throws Exception {
        StringBuilder want = new StringBuilder();
        Matcher parts = Pattern.compile("\nAhead of the calls ([^\n]*) the interface says: (---- \\d [^\n]*)\\.(?=\n)")
            .matcher(Files.readString(Path.of("../shared/DOC.md")));
        while (parts.find()) {
            want.append(parts.group(2)).append(' ').append(parts.group(1).replaceAll("[`,]", "")).append(' ');
        }
        StringBuilder has = new StringBuilder();
        Matcher rows = Pattern.compile("\n    (?:// (---- \\d [^\n]*)|public (?:int|long) (\\w+)\\()")
            .matcher(Files.readString(SOURCE));
        while (rows.find()) {
            has.append(rows.group(1) == null ? rows.group(2) : rows.group(1)).append(' ');
        }
        due.is("the document's order " + want + "is the program's " + has, want.toString().contentEquals(has) ? 1 : 0, 1);
    }

    private static void membersInside() {
        Class<?>[] inside = ValuePlaces.class.getDeclaredClasses();
        due.is("over twelve classes", inside.length + 1 > 12 ? 1 : 0, 0);
        List<Class<?>> all = new ArrayList<>(List.of(inside));
        all.add(ValuePlaces.class);
        for (Class<?> c : all) {
            boolean isInside = c != ValuePlaces.class;
            due.is(c + " is static", !isInside || Modifier.isStatic(c.getModifiers()) ? 1 : 0, 1);
            int fields = 0;
            for (Field f : c.getDeclaredFields()) {
                boolean isStatic = Modifier.isStatic(f.getModifiers());
                fields += isStatic ? 0 : 1;
                due.is(f + " is static, and not final", isStatic && !Modifier.isFinal(f.getModifiers()) ? 1 : 0, 0);
            }
            due.is(c + " has over twenty fields", fields > 20 ? 1 : 0, 0);
        }
    }

    /** All calls of a run live in one room: rows are made with the object, and used again. */
    private static void callsMakeNothing() {
        com.sun.management.ThreadMXBean bean = (com.sun.management.ThreadMXBean) ManagementFactory.getThreadMXBean();
        int[][] arguments = new int[28 * 400][5];
        Random random = new Random(7);
        for (int[] a : arguments) {
            for (int p = 0; p < 5; p++) {
                a[p] = random.nextInt(12) - 1;
            }
        }
        ValuePlaces x = Due.of("r;p-;b00;p110;d21;p20;p42;b110;p60");
        long made = 0;
        // The first round loads what the machine itself needs.
        for (int round = 0; round < 2; round++) {
            long before = bean.getCurrentThreadAllocatedBytes();
            for (int n = 0; n < arguments.length; n++) {
                Faces.call(x, n % 28, arguments[n]);
            }
            made = bean.getCurrentThreadAllocatedBytes() - before;
        }
        due.is("calls made " + made + " bytes", made > 1000 ? 1 : 0, 0);
    }
}
