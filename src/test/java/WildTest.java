import java.lang.reflect.Array;
import java.lang.reflect.Constructor;
import java.lang.reflect.Field;
import java.lang.reflect.InvocationTargetException;
import java.lang.reflect.Method;
import java.lang.reflect.Modifier;
import java.nio.file.Files;
import java.nio.file.Path;
import java.util.ArrayDeque;
import java.util.ArrayList;
import java.util.Collections;
import java.util.Comparator;
import java.util.Deque;
import java.util.IdentityHashMap;
import java.util.List;
import java.util.Random;
import java.util.Set;
import java.util.TreeSet;
import java.util.regex.Matcher;
import java.util.regex.Pattern;

/** What holds for all promises: no call throws, the face is the document's, the source keeps LANGUAGE.md. */
public final class WildTest {
    private static final Check check = new Check();

    public static void main(String[] args) throws Exception {
        face();
        wildCalls();
        dearestCalls();
        room();
        source();
        check.finish("WildTest");
    }

    private static void face() {
        Set<String> want = new TreeSet<>(List.of("int feed(int,int,int,int,int)", "int end(int)", "int field()",
            "int fault(int)", "int cell(int,int)", "int beside(int,int)", "int wind(int)", "int blow(int)",
            "int put(int,int)", "int take(int)", "int sow(int,boolean)", "int turn(int,int)", "boolean undo()",
            "boolean redo()", "int all(int)", "int skyline(int,int)", "long lands(int,int,int,int)", "int dunes(int)",
            "int dune(int,int,int)", "int duneOf(int,int)", "int parts(int)", "int saddle(int,int)", "int crests(int)",
            "int follows(int,int,int)", "int fates(int,int,int)", "int shift(int,int)", "int would(int,int)",
            "int next(int,int)", "int flux(int,int)", "int game(int,int,int)", "int tallest(int,int)",
            "int seen(int,int,int,boolean)", "boolean untell(int)", "int later(int)", "int fits(int)",
            "int fit(int,int)", "int ask(int,int,int)", "int image(int)", "int back(int)", "int about(int)"));
        Set<String> got = new TreeSet<>();
        Set<String> names = new TreeSet<>();
        for (Method m : SandMarch.class.getDeclaredMethods()) {
            if (m.isSynthetic()) continue;
            boolean open = Modifier.isPublic(m.getModifiers());
            check.due(m + " is public or private", open || Modifier.isPrivate(m.getModifiers()), true);
            if (!open) {
                names.add(m.getName());
                continue;
            }
            StringBuilder told = new StringBuilder(m.getReturnType().getName() + " " + m.getName() + "(");
            for (Class<?> type : m.getParameterTypes()) {
                told.append(told.charAt(told.length() - 1) == '(' ? "" : ",").append(type.getName());
            }
            got.add(told.append(")").toString());
        }
        check.due("the face " + got, got.equals(want), true);
        for (String face : want) {
            String name = face.substring(face.indexOf(' ') + 1, face.indexOf('('));
            check.due("no private method is named " + name, names.contains(name), false);
        }
        check.due("the class is final and public", Modifier.isFinal(SandMarch.class.getModifiers())
                && Modifier.isPublic(SandMarch.class.getModifiers()), true);
        Constructor<?>[] makers = SandMarch.class.getDeclaredConstructors();
        check.due("one constructor", makers.length, 1);
        check.due("a public one", Modifier.isPublic(makers[0].getModifiers()), true);
        for (Field f : SandMarch.class.getDeclaredFields()) {
            boolean open = f.getName().equals("NONE");
            check.due(f + " is as open as it should be", open ? Modifier.isPublic(f.getModifiers())
                    : Modifier.isPrivate(f.getModifiers()), true);
        }
        check.due("some twelve classes", SandMarch.class.getDeclaredClasses().length <= 12, true);
        for (Class<?> inside : SandMarch.class.getDeclaredClasses()) {
            check.due(inside + " is static", Modifier.isStatic(inside.getModifiers()), true);
            check.due(inside + " has few fields", List.of(inside.getDeclaredFields()).stream()
                    .filter(f -> !Modifier.isStatic(f.getModifiers())).count() <= 20, true);
        }
    }

    private static List<Method> calls() {
        List<Method> calls = new ArrayList<>();
        for (Method m : SandMarch.class.getDeclaredMethods()) {
            if (Modifier.isPublic(m.getModifiers())) calls.add(m);
        }
        calls.sort(Comparator.comparing(Method::getName));
        return calls;
    }

    private static void wildCalls() throws Exception {
        List<Method> calls = calls();
        int[] edges = {Integer.MIN_VALUE, Integer.MIN_VALUE + 1, -2, -1, 0, 1, 2, 3, 7, 12, 20, 49, 50, 95, 96, 97, 200, 500,
            900, 1000, 9999, Integer.MAX_VALUE - 1, Integer.MAX_VALUE};
        for (int run = 0; run < 150; run++) {
            Random random = new Random(run);
            SandMarch x = new SandMarch();
            for (int i = 0; i < 512; i++) {
                Method m = calls.get(random.nextInt(calls.size()));
                if (random.nextInt(60) == 0) {
                    Check.tell(x, Texts.any(random));
                    m = SandMarch.class.getMethod("field");
                }
                Class<?>[] types = m.getParameterTypes();
                Object[] arguments = new Object[types.length];
                for (int k = 0; k < types.length; k++) {
                    arguments[k] = types[k] == boolean.class ? (Object) random.nextBoolean()
                            : (Object) (random.nextBoolean() ? edges[random.nextInt(edges.length)] : random.nextInt(24));
                }
                try {
                    m.invoke(x, arguments);
                } catch (InvocationTargetException e) {
                    check.due(m.getName() + java.util.Arrays.toString(arguments) + " threw " + e.getCause(), 1, 0);
                }
            }
            int sum = 0;
            for (int cell = 0; cell < x.about(2); cell++) {
                sum += x.cell(cell, 0);
                check.due("no height below 0", x.cell(cell, 0) >= 0, true);
            }
            check.due("all slabs", x.all(0), sum);
            check.due("no more than the slope", x.all(4) <= x.about(7), true);
        }
    }

    /** The dearest texts and calls end soon. */
    private static void dearestCalls() {
        SandMarch x = Check.fieldOf("size 12 by 8;sand 9;slope 1;stick 0 0;shadow 9;" + "heap 11 7 50;".repeat(20));
        long start = System.nanoTime();
        for (int i = 0; i < 100; i++) {
            x.tallest(200, i % 2);
            x.ask(200, i % 2, 0);
            x.would(500, 3);
        }
        for (int i = 0; i < 20; i++) x.seen(200, i, 20, true);
        check.due("within a minute", System.nanoTime() - start < 60_000_000_000L, true);
        check.due("slabs", x.all(0), 9 * 96 + 1000);
    }

    /** What one object makes, and that no call makes more. */
    private static void room() throws Exception {
        SandMarch x = new SandMarch();
        long[] made = reached(x);
        check.due("objects of one SandMarch: " + made[0], made[0] < 300, true);
        check.due("elements of one SandMarch: " + made[1], made[1] < 20000, true);
        String text = Files.readString(Path.of("src/main/java/SandMarch.java"));
        Matcher m = Pattern.compile("(?m)^.*\\bnew \\w+.*$").matcher(text);
        while (m.find()) {
            String line = m.group().trim();
            boolean kept = line.matches("(private )?final .*= new .*;|\\w+(\\[i\\])? = new .*;");
            check.due("made in constructors alone: " + line, kept, true);
        }
    }

    private static long[] reached(Object from) throws Exception {
        Set<Object> met = Collections.newSetFromMap(new IdentityHashMap<>());
        Deque<Object> open = new ArrayDeque<>(List.of(from));
        long elements = 0;
        while (!open.isEmpty()) {
            Object one = open.pop();
            if (!met.add(one)) continue;
            if (one.getClass().isArray()) {
                elements += Array.getLength(one);
                if (one instanceof Object[] many) {
                    for (Object o : many) if (o != null) open.push(o);
                }
                continue;
            }
            for (Field f : one.getClass().getDeclaredFields()) {
                if (Modifier.isStatic(f.getModifiers())) continue;
                elements++;
                f.setAccessible(true);
                Object value = f.get(one);
                if (value != null && !f.getType().isPrimitive()) open.push(value);
            }
        }
        return new long[] {met.size(), elements};
    }

    private static void source() throws Exception {
        String text = Files.readString(Path.of("src/main/java/SandMarch.java"));
        String code = text.replaceAll("(?s)/\\*.*?\\*/", "").replaceAll("//[^\n]*", "").replaceAll("\"[^\"\n]*\"", "\"\"");
        String[] never = {"throw", "throws", "try", "catch", "synchronized", "assert", "package", "protected", "Object",
            "System\\.(?!arraycopy)\\w+", "\\w+Exact", "toString", "hashCode", "interface", "var", "native", "volatile",
            "strictfp", "transient", "Thread", "Random", "float", "double"};
        for (String word : never) {
            Matcher m = Pattern.compile("\\b" + word + "\\b").matcher(code);
            check.due("no '" + word + "'", m.find(), false);
        }
        for (String sign : new String[] {"->", "::", "@", "\" +", "+ \""}) {
            check.due("no " + sign, code.contains(sign), false);
        }
        Matcher imports = Pattern.compile("import ([\\w.]+);").matcher(code);
        while (imports.find()) {
            check.due("import " + imports.group(1), imports.group(1).equals("java.util.Arrays"), true);
        }
        check.due("signs of the source", text.chars().allMatch(c -> c == 10 || c >= 32 && c < 127), true);
        methods(code);
    }

    private static void methods(String code) {
        Matcher m = Pattern.compile("(?m)^( {4}| {8})(?! )[\\w\\[\\] ]*\\b(\\w+)\\(([^()]*)\\) \\{$").matcher(code);
        int count = 0;
        while (m.find()) {
            count++;
            int end = code.indexOf("\n" + m.group(1) + "}\n", m.end());
            long lines = code.substring(m.start(), end).chars().filter(c -> c == '\n').count() + 2;
            check.due(m.group(2) + " is short: " + lines, lines <= 60, true);
            check.due(m.group(2) + "'s parameters", m.group(3).split(",").length <= 7, true);
        }
        check.due("methods were found", count > 100, true);
    }
}
