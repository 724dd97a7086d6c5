import java.lang.reflect.InvocationTargetException;
import java.lang.reflect.Method;
import java.lang.reflect.Modifier;
import java.util.ArrayList;
import java.util.Arrays;
import java.util.HashMap;
import java.util.List;
import java.util.Map;
import java.util.Random;

/** Promises 1 to 28 in long runs of mixed calls, each answer compared with the model's. */
public final class ModelTest {
    private static final int RUNS = 800;
    private static final int CALLS = 512;
    private static final int[] ODD = {Integer.MIN_VALUE, Integer.MAX_VALUE, -2, -1, 0, 8, 9, 36, 37, 50, 51, 100000};

    /** Sets of tiles with which many chunks can be filled, found by a search; the last one takes guesses back. */
    private static final int[][] FOR_CHUNKS = {
        {0, 1, 3, 2, 3, 1, 3, 2, 3, 0, 2, 0, 3, 0, 3, 1, 2, 3, 1, 3, 2, 0, 2, 0, 3, 1, 3, 1, 2, 3, 2, 0},
        {3, 1, 2, 1, 2, 3, 1, 0, 2, 1, 3, 0, 2, 0, 2, 0, 2, 3, 2, 0, 2, 0, 2, 1, 1, 2, 1, 3, 1, 3, 2, 0},
        {2, 1, 1, 0, 1, 1, 0, 1, 0, 2, 1, 1, 1, 1, 1, 3, 1, 2, 1, 2, 0, 2, 1, 1, 1, 1, 1, 3, 1, 1, 0, 1},
        {3, 0, 3, 1, 3, 0, 3, 1, 2, 0, 2, 0, 1, 3, 1, 3, 1, 3, 2, 0, 2, 3, 2, 3, 2, 3, 1, 0, 3, 0, 2, 0},
    };

    private static final Map<String, Method> METHODS = new HashMap<>();
    private static final Map<String, Method> MODEL = new HashMap<>();
    private static final Map<String, Integer> ENDS = new HashMap<>();

    private final Random random;
    private final Tilehold real = new Tilehold();
    private final Model model = new Model();
    private final List<String> told = new ArrayList<>();
    private final int colours;
    private final int side;
    private final int[] edges;
    private int tiles;
    private int cells = 9;
    private Object[] filledChunk = {0, 0};

    private ModelTest(int run) {
        random = new Random(run);
        colours = 1 + random.nextInt(random.nextBoolean() ? 2 : 4);
        side = 1 + random.nextInt(6);
        edges = random.nextInt(3) == 0 ? FOR_CHUNKS[random.nextInt(FOR_CHUNKS.length)] : null;
    }

    private static String answer(Object object, Method method, Object[] arguments) {
        try {
            return String.valueOf(method.invoke(object, arguments));
        } catch (InvocationTargetException e) {
            return "throws " + e.getCause().getClass().getName();
        } catch (IllegalAccessException e) {
            return "no access";
        }
    }

    private int upTo(int bound) {
        return random.nextInt(60) == 0 ? ODD[random.nextInt(ODD.length)] : random.nextInt(Math.max(1, bound));
    }

    private Object[] tile() {
        if (edges == null || tiles >= 8) {
            return new Object[] {upTo(colours), upTo(colours), upTo(colours), upTo(colours), 1 + upTo(9)};
        }
        int at = 4 * tiles;
        return new Object[] {edges[at], edges[at + 1], edges[at + 2], edges[at + 3], 1 + upTo(9)};
    }

    private Object[] argumentsOf(String name) {
        switch (name) {
            case "addTile":
                return tile();
            case "setSeed":
                return new Object[] {random.nextBoolean() ? upTo(100000) : upTo(10)};
            case "setSize":
                return new Object[] {1 + upTo(side), 1 + upTo(side)};
            case "fix":
            case "ban":
                return new Object[] {upTo(cells), upTo(tiles)};
            case "soften":
            case "options":
            case "optionsAnew":
            case "tileAt":
                return new Object[] {upTo(cells)};
            case "setMost":
                return new Object[] {upTo(tiles), random.nextInt(3) == 0 ? upTo(cells) : -1};
            case "setRoad":
                return new Object[] {random.nextBoolean()};
            case "areFitting":
                return new Object[] {upTo(tiles), upTo(tiles), upTo(4)};
            case "fill":
                return new Object[] {random.nextInt(3) == 0 ? upTo(4) : upTo(201)};
            case "visit":
                return new Object[] {place(), place()};
            case "chunkTile":
                return random.nextBoolean()
                        ? new Object[] {filledChunk[0], filledChunk[1], upTo(9)}
                        : new Object[] {place(), place(), upTo(9)};
            case "border":
                return new Object[] {place(), place(), random.nextBoolean(), upTo(3)};
            default:
                return new Object[0];
        }
    }

    private int place() {
        return random.nextInt(12) == 0 ? upTo(103) - 51 : upTo(5) - 2;
    }

    private boolean call(String name) {
        Object[] arguments = argumentsOf(name);
        String got = answer(real, METHODS.get(name), arguments);
        String due = answer(model, MODEL.get(name), arguments);
        told.add(name + Arrays.toString(arguments) + " " + got);
        ENDS.merge(name + " " + got, 1, Integer::sum);
        if (name.equals("addTile") && !due.startsWith("throws")) {
            tiles++;
        }
        if (name.equals("visit") && due.equals("d")) {
            filledChunk = arguments;
        }
        if (name.equals("setSize") && !due.startsWith("throws")) {
            cells = Integer.parseInt(due);
        }
        Check.same(told.size() + ". " + name + Arrays.toString(arguments), got, due);
        return got.equals(due);
    }

    /** What widens the world is called more often than what narrows it, lest most worlds can't be filled. */
    private String anyCall() {
        String[] all = METHODS.keySet().toArray(new String[0]);
        Arrays.sort(all);
        String name = all[random.nextInt(all.length)];
        if (told.size() < 6 + 4 * tiles && tiles < 8 && random.nextInt(3) == 0) {
            return "addTile";
        }
        switch (name) {
            case "ban":
            case "fix":
                return random.nextInt(3) == 0 ? name : "soften";
            case "forget":
            case "setSeed":
            case "addTile":
            case "setSize":
                return random.nextInt(4) == 0 ? name : random.nextBoolean() ? "visit" : "chunkTile";
            default:
                return random.nextInt(8) == 0 ? "fill" : random.nextInt(8) == 0 ? "visit" : name;
        }
    }

    private void run() {
        for (int call = 0; call < CALLS; call++) {
            if (!call(anyCall())) {
                told.forEach(System.out::println);
                return;
            }
        }
    }

    public static void main(String[] arguments) {
        for (Method method : Model.class.getDeclaredMethods()) {
            MODEL.put(method.getName(), method);
        }
        for (Method method : Tilehold.class.getDeclaredMethods()) {
            if (Modifier.isPublic(method.getModifiers())) {
                METHODS.put(method.getName(), method);
            }
        }
        for (int run = 0; run < RUNS; run++) {
            new ModelTest(run).run();
        }
        for (String end : new String[] {"fill d", "fill n", "fill l", "visit d", "visit n", "isFilled true",
            "setRoad true", "ban true", "chunkTile 7", "roads 2", "ways 4", "takenBack 3", "options 5"}) {
            Check.same(end + " came up", ENDS.getOrDefault(end, 0) > 20, true);
        }
        if (arguments.length > 1) {
            ENDS.forEach((end, times) -> System.out.println(end + ": " + times));
        }
        Check.end();
    }
}
