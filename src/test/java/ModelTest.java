import java.lang.reflect.InvocationTargetException;
import java.lang.reflect.Method;
import java.lang.reflect.Modifier;
import java.util.ArrayList;
import java.util.Arrays;
import java.util.Comparator;
import java.util.List;
import java.util.Random;

/** Random runs of calls, each answered by the program and by the model of the document. */
public final class ModelTest {
    private static final int RUNS = 60;
    private static final int CALLS = 512;
    private static final String[] PIECES = {
        "packet", "capacity", "rate", "policy", "scheduler", "priority", "measure", ";", ";", " ", "  ", "0", "1",
        "2", "5", "9", "30", "100", "0007", "12345", "x", "-", "Rate", "ratex", "packet 3 2 50;", "packet 0 5 9;",
        "packet 9 6 1;", "rate 3;", "capacity 90;", "capacity 0;", "policy 2;", "policy3;", "scheduler 1;",
        "priority 3 1;", "priority 6 1;", "measure 2 ;", " packet12 4 33 ;"};

    private final Random random;
    private final List<Method> methods = new ArrayList<>();
    private final StringBuilder log = new StringBuilder();

    private ModelTest(long seed) {
        random = new Random(seed);
        for (Method m : QueueBlame.class.getDeclaredMethods()) {
            if (Modifier.isPublic(m.getModifiers())) methods.add(m);
        }
        methods.sort(Comparator.comparing(Method::getName));
    }

    private int between(int low, int high) {
        return low + random.nextInt(high - low + 1);
    }

    /** Mostly a value of the range, sometimes one at its edges or just outside. */
    private int near(int low, int high) {
        int kind = random.nextInt(30);
        if (kind == 0) return low - 1;
        if (kind == 1) return high + 1;
        if (kind == 2) return random.nextBoolean() ? Integer.MIN_VALUE : Integer.MAX_VALUE;
        if (kind == 3) return low;
        if (kind == 4) return high;
        return between(low, high);
    }

    private int time() {
        return random.nextInt(12) == 0 ? near(0, 500) : near(0, 25);
    }

    private int[] arguments(String name, int packets) {
        switch (name) {
            case "record": return new int[] {time(), near(0, 5), near(1, random.nextBoolean() ? 100 : 30)};
            case "erase": case "cause": case "suspects": case "fate": case "dropped":
                return new int[] {near(0, Math.max(0, packets - 1))};
            case "packet": return new int[] {near(0, Math.max(0, packets - 1)), near(0, 2)};
            case "setCapacity": return new int[] {random.nextInt(5) == 0 ? near(1, 1000) : near(1, 200)};
            case "setRate": return new int[] {random.nextBoolean() ? near(1, 100) : near(1, 12)};
            case "setPolicy": return new int[] {near(0, 4)};
            case "setScheduler": case "setMeasure": return new int[] {near(0, 2)};
            case "setFactor": return new int[] {near(1, 16)};
            case "setThreshold": return new int[] {random.nextInt(4) == 0 ? near(0, 1000) : near(0, 60)};
            case "setInterval": return new int[] {near(2, 9)};
            case "setPriority": return new int[] {near(0, 5), near(0, 9)};
            case "replay": case "worth": return new int[] {near(0, 63)};
            case "loadAt": return new int[] {near(0, 60)};
            case "worthFor": return new int[] {near(0, 63), near(0, 5)};
            case "contribution": return new int[] {near(0, 5), near(0, 63)};
            case "blame": case "index": return new int[] {near(0, 5), near(0, 1)};
            case "blameFor": case "interaction": return new int[] {near(0, 5), near(0, 5), near(0, 1)};
            case "ranked": return new int[] {near(0, 5)};
            case "sampled": return new int[] {near(0, 5), near(1, 100), near(0, Integer.MAX_VALUE - 1)};
            case "capacityFor": return new int[] {random.nextInt(6) == 0 ? near(0, 40) : near(0, 6)};
            case "type": return new int[] {near(32, 126)};
            default: return new int[0];
        }
    }

    private static String answer(Object object, String name, int[] arguments) throws Exception {
        Class<?>[] types = new Class<?>[arguments.length];
        Arrays.fill(types, int.class);
        Object[] boxed = Arrays.stream(arguments).boxed().toArray();
        try {
            return String.valueOf(object.getClass().getMethod(name, types).invoke(object, boxed));
        } catch (InvocationTargetException e) {
            return "throws." + e.getCause().getClass().getSimpleName();
        }
    }

    private boolean call(QueueBlame program, Model model, String name, int... arguments) throws Exception {
        String got = answer(program, name, arguments);
        String due = answer(model, name, arguments);
        log.append(name).append(Arrays.toString(arguments)).append(" = ").append(got).append('\n');
        if (got.equals(due)) return true;
        System.out.print(log);
        System.out.println("due was " + due);
        return false;
    }

    private boolean passes() throws Exception {
        QueueBlame program = new QueueBlame();
        Model model = new Model();
        int first = random.nextInt(41);
        int calls = 0;
        for (int k = 0; k < first; k++, calls++) {
            if (!call(program, model, "record", arguments("record", 0))) return false;
        }
        while (calls < CALLS) {
            Method method = methods.get(random.nextInt(methods.size()));
            String name = method.getName();
            if (name.equals("erase") && random.nextInt(3) > 0) continue;
            if (name.equals("type") && random.nextInt(3) > 0) {
                String piece = PIECES[random.nextInt(PIECES.length)];
                for (char c : piece.toCharArray()) {
                    calls++;
                    if (!call(program, model, "type", c)) return false;
                }
                if (!call(program, model, "fault")) return false;
                calls++;
            } else {
                calls++;
                if (!call(program, model, name, arguments(name, model.packets()))) return false;
            }
        }
        return call(program, model, "checksum");
    }

    public static void main(String[] args) throws Exception {
        int runs = args.length > 0 ? Integer.parseInt(args[0]) : RUNS;
        long start = args.length > 1 ? Long.parseLong(args[1]) : 1;
        for (int run = 0; run < runs; run++) {
            if (!new ModelTest(start + run).passes()) {
                System.out.println("the run with seed " + (start + run) + " is wrong");
                System.exit(1);
            }
        }
    }
}
