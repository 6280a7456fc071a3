import java.lang.reflect.InvocationTargetException;
import java.lang.reflect.Method;
import java.lang.reflect.Modifier;
import java.util.ArrayList;
import java.util.Comparator;
import java.util.List;
import java.util.Random;

/** Random texts and random calls, right and wrong ones, each held against the Model. */
public final class ModelTest {
    private static final Check check = new Check();
    private static final List<Method> calls = new ArrayList<>();
    private static final List<Method> same = new ArrayList<>();
    private static Random random;
    private static SandMarch x;
    private static Model model;
    private static String run;
    /** An object is used for at most 512 calls. */
    private static int callsLeft;

    public static void main(String[] args) throws Exception {
        int runs = args.length > 0 ? Integer.parseInt(args[0]) : 600;
        int from = args.length > 1 ? Integer.parseInt(args[1]) : 0;
        for (Method m : SandMarch.class.getDeclaredMethods()) {
            if (Modifier.isPublic(m.getModifiers())) calls.add(m);
        }
        calls.sort(Comparator.comparing(Method::getName));
        for (Method m : calls) same.add(Model.class.getMethod(m.getName(), m.getParameterTypes()));
        check.due("how many calls the face has", calls.size(), 40);
        for (int i = from; i < from + runs; i++) oneRun(i);
        check.finish("ModelTest");
    }

    private static void oneRun(int number) throws Exception {
        random = new Random(number);
        run = "run " + number;
        x = new SandMarch();
        model = new Model();
        callsLeft = 512;
        if (random.nextInt(8) != 0) tellField();
        // enough calls are left to look at all of the largest field at the end
        while (callsLeft > 130 && random.nextInt(150) != 0) {
            if (callsLeft > 330 && random.nextInt(40) == 0) tellField();
            else if (callsLeft > 260 && random.nextInt(60) == 0) compareAll();
            else oneCall(random.nextInt(calls.size()));
        }
        compareAll();
    }

    private static void tellField() throws Exception {
        String text = Texts.any(random);
        call("end", 0);
        for (int i = 0; i < text.length(); i += 20) {
            call("feed", Check.pack(text, i), Check.pack(text, i + 4), Check.pack(text, i + 8),
                    Check.pack(text, i + 12), Check.pack(text, i + 16));
        }
        call("end", text.length());
        String whole = run;
        run = run + " [" + text.replace('\n', '/') + "]";
        call("field");
        call("fault", 0);
        call("fault", 1);
        run = whole;
        compareAll();
    }

    private static void compareAll() throws Exception {
        for (int what = -1; what < 18; what++) call("about", what);
        for (int what = -1; what < 8; what++) call("all", what);
        int what = random.nextInt(4) == 0 ? 1 + random.nextInt(4) : 0;
        for (int cell = 0; cell < model.about(2); cell++) call("cell", cell, what);
    }

    private static void oneCall(int which) throws Exception {
        Method m = calls.get(which);
        if (m.getName().equals("field") && random.nextInt(6) != 0) return;
        Class<?>[] types = m.getParameterTypes();
        Object[] arguments = new Object[types.length];
        for (int i = 0; i < types.length; i++) {
            arguments[i] = types[i] == boolean.class ? random.nextBoolean() : (Object) anyNumber(m.getName(), i);
        }
        call(which, arguments);
    }

    private static int anyNumber(String name, int argument) {
        int cells = model.about(2);
        switch (random.nextInt(24)) {
            case 0: return -1;
            case 1: return cells;
            case 2: return List.of(500, 501, 200, 201, 9999, 10000, 50, 51, 1000, 1001).get(random.nextInt(10));
            case 3: return random.nextInt();
            case 4: return List.of(Integer.MAX_VALUE, Integer.MIN_VALUE, 0, 1).get(random.nextInt(4));
            default: break;
        }
        switch (name + argument) {
            case "cell0": case "beside0": case "put0": case "take0": case "sow0": case "lands0": case "lands1":
            case "duneOf1": case "saddle0": case "saddle1": case "would1": case "seen1": return random.nextInt(cells);
            case "blow0": case "would0": case "next0": case "flux1": return random.nextInt(60);
            case "game1": case "tallest0": case "seen0": case "ask0": return random.nextInt(30);
            case "game0": return random.nextInt(10000);
            case "put1": return random.nextInt(20);
            case "wind0": return random.nextInt(300);
            case "lands2": return random.nextInt(13);
            case "later0": return random.nextInt(4);
            case "turn1": return random.nextInt(17);
            case "fits0": case "fit1": case "ask2": return model.about(15) + random.nextInt(5) - 3;
            case "all0": case "dune2": return random.nextInt(7);
            case "about0": return random.nextInt(17);
            case "crests0": case "lands3": case "ask1": return random.nextInt(3);
            case "image0": case "back0": case "shift0": case "follows0": case "fates0": return random.nextInt(3);
            case "dune1": case "follows2": return random.nextInt(3);
            case "end0": return random.nextInt(model.about(16) + 1);
            case "fit0": return random.nextInt(50);
            case "untell0": return random.nextInt(4);
            default: return random.nextInt(6);
        }
    }

    private static void call(String name, Object... arguments) throws Exception {
        for (int i = 0; i < calls.size(); i++) {
            if (calls.get(i).getName().equals(name)) {
                call(i, arguments);
                return;
            }
        }
        throw new IllegalStateException(name);
    }

    private static void call(int which, Object[] arguments) throws Exception {
        callsLeft--;
        check.due(run + ": calls of one object", callsLeft >= 0, true);
        String told = run + ": " + calls.get(which).getName() + java.util.Arrays.toString(arguments);
        long want = number(same.get(which).invoke(model, arguments));
        long got;
        try {
            got = number(calls.get(which).invoke(x, arguments));
        } catch (InvocationTargetException e) {
            System.out.println(told + " threw " + e.getCause());
            check.due(told, 1, 0);
            return;
        }
        check.due(told, got, want);
    }

    private static long number(Object answer) {
        return answer instanceof Boolean b ? (b ? 1 : 0) : ((Number) answer).longValue();
    }
}
