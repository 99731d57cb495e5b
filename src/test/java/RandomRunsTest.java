import java.lang.reflect.InvocationTargetException;
import java.lang.reflect.Method;
import java.util.ArrayList;
import java.util.Arrays;
import java.util.HashMap;
import java.util.List;
import java.util.Map;
import java.util.Random;

/** All promises at once: random runs of calls, each answer against PlainModel's, and no call throws. */
public final class RandomRunsTest {
    private static final int RUNS = 400;
    private static final int CALLS = 512;
    private static final int WRONG_SHOWN = 5;
    private static final int[] WILD = {Integer.MIN_VALUE, -1000000, -2, -1, 6, 8, 12, 21, 100, 101, 120, 300, 365, 500,
        501, 1000, 1001, 10000, 10001, 1000364, Integer.MAX_VALUE};

    /** A call's name, how often it is made, and the kinds of its arguments. */
    private static final String[] CALLS_MADE = {
        "post 1", "way 2 post post what bears", "store 8 post ware landed", "load 10 ware loaded", "send 14 post way",
        "lose 1 canoe", "spoil 3 canoe ware few", "go 7 days", "sell 8 post hunter ware traded",
        "buy 8 post hunter ware traded", "give 4 post hunter ware few", "owes 2 post hunter", "price 2 post ware",
        "order 8 post post ware price", "debt 6 post post hunter", "report 8 post post", "known 5 post post ware",
        "knownDay 3 post post", "next 3 post post", "want 3 ware wanted parts", "indent 2 post ware rate rate",
        "cost 2 post ware rate rate wanted", "quarrel 3 post post", "canoe 4 canoe fact", "told 3 post fact",
        "count 3 countable fact",
    };

    private final FurPosts made = new FurPosts();
    private final PlainModel model = new PlainModel();
    private final Random random;
    private final int wildness;
    private final List<String> log = new ArrayList<>();
    private boolean wrong;

    private RandomRunsTest(int seed) {
        random = new Random(seed);
        wildness = seed % 4 == 0 ? 3 : 40;
    }

    public static void main(String[] args) throws ReflectiveOperationException {
        Map<String, Method> ofMade = methods(FurPosts.class);
        Map<String, Method> ofModel = methods(PlainModel.class);
        int wrongRuns = 0;
        for (int seed = 0; seed < RUNS && wrongRuns < WRONG_SHOWN; seed++) {
            RandomRunsTest run = new RandomRunsTest(seed);
            run.play(ofMade, ofModel);
            wrongRuns += run.wrong ? 1 : 0;
        }
        System.out.println("RandomRunsTest: " + RUNS + " runs, " + wrongRuns + " not as due");
        if (wrongRuns != 0) {
            System.exit(1);
        }
    }

    private static Map<String, Method> methods(Class<?> of) {
        Map<String, Method> found = new HashMap<>();
        for (Method m : of.getDeclaredMethods()) {
            if (java.lang.reflect.Modifier.isPublic(m.getModifiers())) {
                found.put(m.getName(), m);
            }
        }
        return found;
    }

    private void play(Map<String, Method> ofMade, Map<String, Method> ofModel) throws ReflectiveOperationException {
        List<String> deck = new ArrayList<>();
        for (String line : CALLS_MADE) {
            for (int i = Integer.parseInt(line.split(" ")[1]); i > 0; i--) {
                deck.add(line);
            }
        }
        int posts = 2 + random.nextInt(7);
        for (int i = 0; i < posts; i++) {
            ask(ofMade, ofModel, "post");
        }
        for (int i = 1; i < posts; i++) {
            ask(ofMade, ofModel, "way", random.nextInt(i), i, anArgument("what"), anArgument("bears"));
        }
        rightWants(ofMade, ofModel);
        for (int i = 0; i < CALLS && !wrong; i++) {
            String[] line = deck.get(random.nextInt(deck.size())).split(" ");
            Object[] args = new Object[line.length - 2];
            for (int a = 0; a < args.length; a++) {
                args[a] = random.nextInt(wildness) == 0 ? WILD[random.nextInt(WILD.length)] : anArgument(line[a + 2]);
            }
            ask(ofMade, ofModel, line[0], args);
            if (i % 64 == 63) {
                askAll(ofMade, ofModel);
            }
        }
    }

    private void rightWants(Map<String, Method> ofMade, Map<String, Method> ofModel) throws ReflectiveOperationException {
        for (int ware = 0; ware < 6; ware++) {
            int left = 1000;
            for (int i = 0; i < 4; i++) {
                int parts = i == 3 ? left : random.nextInt(left + 1);
                ask(ofMade, ofModel, "want", ware, i * 5 + random.nextInt(5), parts);
                left -= parts;
            }
        }
    }

    private int anArgument(String kind) {
        switch (kind) {
            case "post": return random.nextInt(model.count(-1, 1) + 1);
            case "way": return random.nextInt(model.count(-1, 2) + 1);
            case "canoe": return Math.max(0, model.count(-1, 3) - random.nextInt(6));
            case "ware": return random.nextInt(random.nextInt(20) == 0 ? 7 : 3);
            case "countable": return random.nextInt(8) - 1;
            case "hunter": return random.nextInt(random.nextInt(20) == 0 ? 13 : 3);
            case "what": return aWay();
            case "bears": return random.nextBoolean() ? 500 : 1 + random.nextInt(100);
            case "landed": return random.nextInt(10) == 0 ? 10000 : random.nextInt(3000);
            case "loaded": return random.nextInt(random.nextInt(4) == 0 ? 501 : 40);
            case "few": return random.nextInt(20);
            case "traded": return random.nextInt(random.nextInt(3) == 0 ? 1001 : 30);
            case "days": return random.nextInt(random.nextInt(10) == 0 ? 401 : 12);
            case "price": return random.nextInt(102);
            case "parts": return random.nextInt(3) == 0 ? 1000 : random.nextInt(4) * 250;
            case "wanted": return random.nextInt(22);
            case "rate": return random.nextInt(103) - 1;
            case "fact": return random.nextInt(28) - 1;
            default: throw new IllegalArgumentException(kind);
        }
    }

    private int aWay() {
        int days = random.nextInt(3) == 0 ? 1 + random.nextInt(42) : 1 + random.nextInt(4);
        int first = random.nextBoolean() ? 0 : random.nextInt(200);
        int last = random.nextBoolean() ? 364 : random.nextInt(366);
        return days * 1000000 + first * 1000 + last;
    }

    /** Whatever can be asked without a change. */
    private void askAll(Map<String, Method> ofMade, Map<String, Method> ofModel) throws ReflectiveOperationException {
        for (int i = -1; i <= 8; i++) {
            for (int what = -1; what <= 8; what++) {
                ask(ofMade, ofModel, "told", i, what);
                ask(ofMade, ofModel, "count", i, what);
                ask(ofMade, ofModel, "next", i, what);
                ask(ofMade, ofModel, "quarrel", i, what);
                ask(ofMade, ofModel, "knownDay", i, what);
                ask(ofMade, ofModel, "price", i, what);
                ask(ofMade, ofModel, "known", i, what, 0);
                ask(ofMade, ofModel, "known", i, what, 2);
            }
            for (int hunter = -1; hunter <= 12; hunter++) {
                ask(ofMade, ofModel, "owes", i, hunter);
            }
            for (int ware = 0; ware < 6; ware++) {
                ask(ofMade, ofModel, "indent", i, ware, 7, 4);
                ask(ofMade, ofModel, "cost", i, ware, 7, 4, 9);
            }
        }
        for (int c = 0; c <= model.count(-1, 3); c++) {
            for (int what = 0; what <= 26; what++) {
                ask(ofMade, ofModel, "canoe", c, what);
            }
        }
    }

    private void ask(Map<String, Method> ofMade, Map<String, Method> ofModel, String name, Object... args)
            throws ReflectiveOperationException {
        if (wrong) {
            return;
        }
        Object due = ofModel.get(name).invoke(model, args);
        Object got = answer(ofMade.get(name), args);
        log.add(name + Arrays.toString(args) + " = " + got);
        if (!due.equals(got)) {
            wrong = true;
            System.out.println("RandomRunsTest: a run of " + log.size() + " calls, its last ones:");
            log.subList(Math.max(0, log.size() - 12), log.size()).forEach(System.out::println);
            System.out.println("due is " + due);
        }
    }

    private Object answer(Method method, Object[] args) throws IllegalAccessException {
        try {
            return method.invoke(made, args);
        } catch (InvocationTargetException e) {
            return e.getCause();
        }
    }
}
