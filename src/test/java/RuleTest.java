import java.lang.reflect.Array;
import java.lang.reflect.Constructor;
import java.lang.reflect.Field;
import java.lang.reflect.Method;
import java.lang.reflect.Modifier;
import java.nio.file.Files;
import java.nio.file.Path;
import java.util.ArrayDeque;
import java.util.ArrayList;
import java.util.Collections;
import java.util.Deque;
import java.util.HashMap;
import java.util.IdentityHashMap;
import java.util.List;
import java.util.Map;
import java.util.Set;
import java.util.TreeSet;
import java.util.regex.Matcher;
import java.util.regex.Pattern;

/** The rules of LANGUAGE.md, by their numbers, as far as they can be seen in the source and in what is compiled. */
public final class RuleTest {
    private static final Check check = new Check();
    private static final Set<String> FACE = new TreeSet<>(List.of("int feed(int,int,int,int,int)", "int end(int)", "int field()",
        "int fault(int)", "int cell(int,int)", "int beside(int,int)", "int wind(int)", "int blow(int)",
        "int put(int,int)", "int take(int)", "int sow(int,boolean)", "int turn(int,int)", "boolean undo()",
        "boolean redo()", "int all(int)", "int skyline(int,int)", "long lands(int,int,int,int)", "int dunes(int)",
        "int dune(int,int,int)", "int duneOf(int,int)", "int parts(int)", "int saddle(int,int)", "int crests(int)",
        "int follows(int,int,int)", "int fates(int,int,int)", "int shift(int,int)", "int would(int,int)",
        "int next(int,int)", "int flux(int,int)", "int game(int,int,int)", "int tallest(int,int)",
        "int seen(int,int,int,boolean)", "boolean untell(int)", "int later(int)", "int fits(int)",
        "int fit(int,int)", "int ask(int,int,int)", "int image(int)", "int back(int)", "int about(int)"));
    private static final List<Class<?>> classes = new ArrayList<>();
    private static String text;
    /** The source without comments and without what stands in quotes. */
    private static String code;
    private static final Map<String, String> bodies = new HashMap<>();

    public static void main(String[] args) throws Exception {
        text = Files.readString(Path.of("src/main/java/SandMarch.java"));
        code = text.replaceAll("(?s)/\\*.*?\\*/", "").replaceAll("//[^\n]*", "").replaceAll("\"[^\"\n]*\"", "\"\"");
        classes.add(SandMarch.class);
        classes.addAll(List.of(SandMarch.class.getDeclaredClasses()));
        rule1Face();
        rule2Classes();
        rule3Types();
        rule4Library();
        rule5Statics();
        rule6Words();
        rule8Recursion();
        rule9Loops();
        rule11Sizes();
        rule12Room();
        check.finish("RuleTest");
    }

    private static void rule1Face() {
        Set<String> got = new TreeSet<>();
        Set<String> hidden = new TreeSet<>();
        for (Method m : SandMarch.class.getDeclaredMethods()) {
            if (m.isSynthetic()) continue;
            boolean open = Modifier.isPublic(m.getModifiers());
            check.due(m + " is public or private", open || Modifier.isPrivate(m.getModifiers()), true);
            if (!open) {
                hidden.add(m.getName());
                continue;
            }
            StringBuilder told = new StringBuilder(m.getReturnType().getName() + " " + m.getName() + "(");
            for (Class<?> type : m.getParameterTypes()) {
                told.append(told.charAt(told.length() - 1) == '(' ? "" : ",").append(type.getName());
            }
            got.add(told.append(")").toString());
        }
        check.due("the face " + got, got.equals(FACE), true);
        for (Class<?> inside : SandMarch.class.getDeclaredClasses()) {
            for (Method m : inside.getDeclaredMethods()) hidden.add(m.getName());
        }
        for (String face : FACE) {
            String name = face.substring(face.indexOf(' ') + 1, face.indexOf('('));
            check.due("no hidden method is named " + name, hidden.contains(name), false);
        }
        check.due("public and final", SandMarch.class.getModifiers() & (Modifier.PUBLIC | Modifier.FINAL),
                Modifier.PUBLIC | Modifier.FINAL);
        Constructor<?>[] makers = SandMarch.class.getDeclaredConstructors();
        check.due("one constructor", makers.length, 1);
        check.due("a public one", Modifier.isPublic(makers[0].getModifiers()), true);
        check.due("without parameters", makers[0].getParameterCount(), 0);
        for (Field f : SandMarch.class.getDeclaredFields()) {
            boolean open = f.getName().equals("NONE");
            check.due(f + " is as open as it should be", open ? Modifier.isPublic(f.getModifiers())
                    : Modifier.isPrivate(f.getModifiers()), true);
        }
        check.due("NONE", SandMarch.NONE, -1);
        check.due("no package", SandMarch.class.getPackageName().isEmpty(), true);
    }

    private static void rule2Classes() {
        for (Class<?> inside : SandMarch.class.getDeclaredClasses()) {
            check.due(inside + " is static", Modifier.isStatic(inside.getModifiers()), true);
            check.due(inside + " holds no class", inside.getDeclaredClasses().length, 0);
        }
        check.due("one class in the file and those inside", Pattern.compile("\\bclass ").matcher(code).results().count(),
                classes.size());
        check.due("no lambda", code.contains("->"), false);
        check.due("no method reference", code.contains("::"), false);
    }

    private static void rule3Types() {
        for (Class<?> c : classes) {
            for (Field f : c.getDeclaredFields()) {
                Class<?> type = f.getType();
                Class<?> part = type.isArray() ? type.getComponentType() : type;
                boolean right = part.isPrimitive() || classes.contains(part) || part == String.class && !type.isArray();
                check.due(f + " is of a type that may be", right, true);
            }
        }
        check.due("signs of the source", text.chars().allMatch(ch -> ch == 10 || ch >= 32 && ch < 127), true);
    }

    private static void rule4Library() throws Exception {
        Set<String> may = Set.of("java/lang/Object.<init>()V", "java/lang/String.length()I", "java/lang/String.charAt(I)C",
            "java/util/Arrays.fill([II)V", "java/util/Arrays.fill([JJ)V", "java/lang/System.arraycopy"
            + "(Ljava/lang/Object;ILjava/lang/Object;II)V", "java/lang/Math.max(II)I", "java/lang/Math.min(II)I",
            "java/lang/Math.abs(I)I", "java/lang/Math.max(JJ)J", "java/lang/Math.min(JJ)J", "java/lang/Long.bitCount(J)I");
        for (Class<?> c : classes) {
            ClassFile file = new ClassFile(c);
            check.due(c + " has nothing dynamic: no lambda, no + of texts", file.dynamic, false);
            for (String method : file.methods) {
                check.due(c + " calls " + method, method.startsWith("SandMarch") || may.contains(method), true);
            }
            for (String field : file.fields) {
                check.due(c + " uses " + field, field.startsWith("SandMarch"), true);
            }
            for (String name : file.classes) {
                boolean right = name.startsWith("SandMarch") || name.startsWith("[LSandMarch") || name.length() == 2
                        || Set.of("java/lang/Object", "java/lang/String", "java/lang/System", "java/lang/Math",
                            "java/lang/Long", "java/util/Arrays").contains(name) || name.startsWith("java/lang/invoke/MethodHandles");
                check.due(c + " names " + name, right, true);
            }
        }
        Matcher imports = Pattern.compile("import ([\\w.]+);").matcher(code);
        while (imports.find()) {
            check.due("import " + imports.group(1), imports.group(1).equals("java.util.Arrays"), true);
        }
    }

    private static void rule5Statics() {
        Set<Class<?>> may = Set.of(int.class, long.class, boolean.class, char.class, String.class, int[].class, long[].class,
            char[].class, byte[].class);
        for (Class<?> c : classes) {
            for (Field f : c.getDeclaredFields()) {
                if (Modifier.isStatic(f.getModifiers())) {
                    check.due(f + " is final", Modifier.isFinal(f.getModifiers()), true);
                    check.due(f + " is a constant", may.contains(f.getType()), true);
                }
            }
        }
        check.due("no static block", Pattern.compile("static\\s*\\{").matcher(code).find(), false);
        // an array that is a constant is never written to
        Matcher arrays = Pattern.compile("static final \\w+\\[\\] (\\w+) = \\{").matcher(code);
        int found = 0;
        while (arrays.find()) {
            found++;
            check.due(arrays.group(1) + " is never changed",
                    Pattern.compile("\\b" + arrays.group(1) + "\\[[^\\]]*\\]\\s*([-+*/|&^]?=[^=]|\\+\\+|--)").matcher(code).find(), false);
        }
        check.due("constants that are arrays were found", found > 0, true);
    }

    private static void rule6Words() {
        String[] never = {"throw", "throws", "try", "catch", "finally", "synchronized", "assert", "package", "protected", "Object",
            "Exception", "Error", "System\\.(?!arraycopy)\\w+", "\\w+Exact", "toString", "hashCode", "equals", "interface", "var",
            "native", "volatile", "strictfp", "transient", "Thread", "Random", "float", "double", "record", "enum", "instanceof"};
        for (String word : never) {
            Matcher m = Pattern.compile("\\b" + word + "\\b").matcher(code);
            check.due("no '" + word + "'", m.find(), false);
        }
        for (String sign : new String[] {"@", "\" +", "+ \""}) {
            check.due("no " + sign, code.contains(sign), false);
        }
    }

    /** No method calls itself, however far round, and calls go at most eight deep; methods are told apart by name alone. */
    private static void rule8Recursion() {
        Matcher m = Pattern.compile("(?m)^( {4}| {8})(?! )[\\w\\[\\] ]*\\b(\\w+)\\(([^()]*)\\) \\{$").matcher(code);
        while (m.find()) {
            int end = code.indexOf("\n" + m.group(1) + "}\n", m.end());
            String body = code.substring(m.end(), end);
            bodies.merge(m.group(2), body, (one, other) -> one + other);
        }
        check.due("methods were found", bodies.size() > 100, true);
        for (String face : FACE) {
            String name = face.substring(face.indexOf(' ') + 1, face.indexOf('('));
            int depth = depth(name, new ArrayDeque<>());
            check.due(name + " goes " + depth + " deep", depth <= 8, true);
        }
        check.due("the constructor", depth("SandMarch", new ArrayDeque<>()) <= 8, true);
    }

    private static int depth(String name, Deque<String> open) {
        if (!bodies.containsKey(name)) return 0;
        check.due("no recursion: " + open + " " + name, open.contains(name), false);
        if (open.contains(name)) return 99;
        open.push(name);
        int most = 0;
        Matcher call = Pattern.compile("(?<!new )\\b(\\w+)\\(").matcher(bodies.get(name));
        while (call.find()) most = Math.max(most, depth(call.group(1), open));
        open.pop();
        return most + 1;
    }

    /** Each loop has a counter against a bound in its own line. */
    private static void rule9Loops() {
        Matcher loop = Pattern.compile("(?m)^.*\\b(for|while|do)\\b.*$").matcher(code);
        int found = 0;
        while (loop.find()) {
            found++;
            String line = loop.group().trim();
            boolean counted = line.matches("for \\(int (\\w+) = [^;]+; \\1 (<|<=|>=) [^;]+; \\1(\\+\\+| -= \\d+)\\) \\{");
            boolean along = line.matches("while \\(at < length && \\w+\\(bytes\\[at\\]\\)\\) \\{");
            check.due("its end can be seen: " + line, counted || along, true);
        }
        check.due("loops were found", found > 40, true);
    }

    private static void rule11Sizes() {
        check.due("some twelve classes", classes.size() <= 12, true);
        for (Class<?> c : classes) {
            int fields = 0;
            for (Field f : c.getDeclaredFields()) fields += Modifier.isStatic(f.getModifiers()) ? 0 : 1;
            check.due(c + " has few fields: " + fields, fields <= 20, true);
            for (Method m : c.getDeclaredMethods()) check.due(m + "'s parameters", m.getParameterCount() <= 7, true);
            for (Constructor<?> m : c.getDeclaredConstructors()) check.due(m + "'s parameters", m.getParameterCount() <= 7, true);
        }
        for (Map.Entry<String, String> method : bodies.entrySet()) {
            long lines = method.getValue().chars().filter(c -> c == '\n').count() + 2;
            check.due(method.getKey() + " is short: " + lines, lines <= 60, true);
        }
    }

    /** What one object makes, and that no call makes more. */
    private static void rule12Room() throws Exception {
        SandMarch x = new SandMarch();
        long[] made = reached(x);
        check.due("objects of one SandMarch: " + made[0], made[0] < 300, true);
        check.due("elements of one SandMarch: " + made[1], made[1] < 20000, true);
        Matcher m = Pattern.compile("(?m)^.*\\bnew \\w+.*$").matcher(code);
        while (m.find()) {
            String line = m.group().trim();
            boolean kept = line.matches("(private )?final .*= new .*;|\\w+(\\[i\\])? = new .*;");
            check.due("made in constructors alone: " + line, kept, true);
        }
        check.due("constructors hand out nothing of what they make", Pattern.compile("[(,]\\s*this\\b").matcher(code).find(), false);
        for (Class<?> inside : SandMarch.class.getDeclaredClasses()) {
            check.due(inside + " can't be extended", Modifier.isFinal(inside.getModifiers()), true);
        }
    }

    private static long[] reached(Object from) throws Exception {
        Set<Object> met = Collections.newSetFromMap(new IdentityHashMap<>());
        Deque<Object> open = new ArrayDeque<>(List.of(from));
        long elements = 0;
        while (!open.isEmpty()) {
            Object one = open.pop();
            if (!met.add(one)) continue;
            if (one.getClass().isArray()) {
                elements += Array.getLength(one);
                if (one instanceof Object[] many) {
                    for (Object o : many) if (o != null) open.push(o);
                }
                continue;
            }
            for (Field f : one.getClass().getDeclaredFields()) {
                if (Modifier.isStatic(f.getModifiers())) continue;
                elements++;
                f.setAccessible(true);
                Object value = f.get(one);
                if (value != null && !f.getType().isPrimitive()) open.push(value);
            }
        }
        return new long[] {met.size(), elements};
    }
}
