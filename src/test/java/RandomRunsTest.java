import java.lang.reflect.InvocationTargetException;
import java.lang.reflect.Method;
import java.lang.reflect.Modifier;
import java.util.ArrayList;
import java.util.Arrays;
import java.util.HashMap;
import java.util.List;
import java.util.Map;
import java.util.Random;

/** All promises at once: random runs of calls, each answer against PlainModel's, and no call throws. */
public final class RandomRunsTest {
    private static final int RUNS = 1500;
    private static final int CALLS = 512;
    private static final int LONGEST_RUN = 420;
    private static final int WRONG_SHOWN = 5;
    private static final int[] WILD = {Integer.MIN_VALUE, -1000000, -2, -1, 6, 8, 12, 21, 100, 101, 120, 300, 365, 500,
        501, 1000, 1001, 10000, 10001, 1000364, Integer.MAX_VALUE};

    /** A call's name, how often it is made, and the kinds of its arguments. */
    private static final String[] CALLS_MADE = {
        "post 1", "way 2 post post what bears", "store 8 post ware landed", "load 10 ware loaded", "send 14 post way",
        "lose 1 canoe", "spoil 3 canoe ware few", "go 7 days", "sell 8 post hunter ware traded",
        "buy 8 post hunter ware traded", "give 4 post hunter ware few", "owes 2 post hunter", "price 2 post ware",
        "order 8 post post ware price", "debt 6 post post hunter", "report 8 post post", "known 5 post post ware",
        "knownDay 3 post post", "next 3 post post", "want 3 ware wanted parts", "indent 2 post ware rate rate",
        "cost 2 post ware rate rate wanted", "quarrel 3 post post", "canoe 4 canoe fact", "told 3 post fact",
        "count 3 countable fact",
    };

    private static final Map<String, Method> OF_MADE = methods(FurPosts.class);
    private static final Map<String, Method> OF_MODEL = methods(PlainModel.class);

    private record Made(String name, Object[] args) {
    }

    private final PlainModel model = new PlainModel();
    private final Random random;
    private final int wildness;
    private final List<Made> calls = new ArrayList<>();
    private final List<Made> questions = new ArrayList<>();
    private boolean wrong;

    private RandomRunsTest(int seed) {
        random = new Random(seed);
        wildness = seed % 4 == 0 ? 3 : 40;
    }

    public static void main(String[] args) throws ReflectiveOperationException {
        int wrongRuns = 0;
        for (int seed = 0; seed < RUNS && wrongRuns < WRONG_SHOWN; seed++) {
            RandomRunsTest run = new RandomRunsTest(seed);
            run.play();
            run.askAll();
            wrongRuns += run.wrong ? 1 : 0;
        }
        System.out.println("RandomRunsTest: " + RUNS + " runs, " + wrongRuns + " not as due");
        if (wrongRuns != 0) {
            System.exit(1);
        }
    }

    private static Map<String, Method> methods(Class<?> of) {
        Map<String, Method> found = new HashMap<>();
        for (Method m : of.getDeclaredMethods()) {
            if (Modifier.isPublic(m.getModifiers())) {
                found.put(m.getName(), m);
            }
        }
        return found;
    }

    private void play() throws ReflectiveOperationException {
        List<String> deck = new ArrayList<>();
        for (String line : CALLS_MADE) {
            for (int i = Integer.parseInt(line.split(" ")[1]); i > 0; i--) {
                deck.add(line);
            }
        }
        FurPosts made = new FurPosts();
        prepare(made);
        int length = calls.size() + 1 + random.nextInt(LONGEST_RUN - calls.size());
        while (calls.size() < length && !wrong) {
            String[] line = deck.get(random.nextInt(deck.size())).split(" ");
            Object[] args = new Object[line.length - 2];
            for (int a = 0; a < args.length; a++) {
                args[a] = random.nextInt(wildness) == 0 ? WILD[random.nextInt(WILD.length)] : anArgument(line[a + 2]);
            }
            make(made, line[0], args);
        }
    }

    /** Posts that are joined, and wants that are right. */
    private void prepare(FurPosts made) throws ReflectiveOperationException {
        int posts = 2 + random.nextInt(7);
        for (int i = 0; i < posts; i++) {
            make(made, "post");
        }
        for (int i = 1; i < posts; i++) {
            make(made, "way", random.nextInt(i), i, anArgument("what"), anArgument("bears"));
        }
        for (int ware = 0; ware < 6; ware++) {
            int left = 1000;
            for (int i = 0; i < 4; i++) {
                int parts = i == 3 ? left : random.nextInt(left + 1);
                make(made, "want", ware, i * 5 + random.nextInt(5), parts);
                left -= parts;
            }
        }
    }

    private int anArgument(String kind) {
        switch (kind) {
            case "post": return random.nextInt(model.count(-1, 1) + 1);
            case "way": return random.nextInt(model.count(-1, 2) + 1);
            case "canoe": return Math.max(0, model.count(-1, 3) - random.nextInt(6));
            case "ware": return random.nextInt(random.nextInt(20) == 0 ? 7 : 3);
            case "countable": return random.nextInt(8) - 1;
            case "hunter": return random.nextInt(random.nextInt(20) == 0 ? 13 : 3);
            case "what": return aWay();
            case "bears": return random.nextBoolean() ? 500 : 1 + random.nextInt(100);
            case "landed": return random.nextInt(10) == 0 ? 10000 : random.nextInt(3000);
            case "loaded": return random.nextInt(random.nextInt(4) == 0 ? 501 : 40);
            case "few": return random.nextInt(20);
            case "traded": return random.nextInt(random.nextInt(3) == 0 ? 1001 : 30);
            case "days": return random.nextInt(random.nextInt(10) == 0 ? 401 : 12);
            case "price": return random.nextInt(102);
            case "parts": return random.nextInt(3) == 0 ? 1000 : random.nextInt(4) * 250;
            case "wanted": return random.nextInt(22);
            case "rate": return random.nextInt(103) - 1;
            case "fact": return random.nextInt(28) - 1;
            default: throw new IllegalArgumentException(kind);
        }
    }

    private int aWay() {
        int days = random.nextInt(3) == 0 ? 1 + random.nextInt(42) : 1 + random.nextInt(4);
        int first = random.nextBoolean() ? 0 : random.nextInt(200);
        int last = random.nextBoolean() ? 364 : random.nextInt(366);
        return days * 1000000 + first * 1000 + last;
    }

    /** The run is made again for each lot of questions: behind 512 calls an answer is free. */
    private void askAll() throws ReflectiveOperationException {
        listQuestions();
        int asked = 0;
        while (asked < questions.size() && !wrong) {
            FurPosts made = new FurPosts();
            for (Made call : calls) {
                answer(made, call);
            }
            int end = Math.min(questions.size(), asked + CALLS - calls.size());
            for (; asked < end && !wrong; asked++) {
                compare(made, questions.get(asked));
            }
        }
    }

    private void listQuestions() {
        for (int i = -1; i <= 8; i++) {
            for (int what = -1; what <= 8; what++) {
                for (String name : List.of("told", "count", "next", "quarrel", "knownDay", "price")) {
                    question(name, i, what);
                }
                question("known", i, what, 0);
                question("known", i, what, 2);
            }
            for (int hunter = -1; hunter <= 12; hunter++) {
                question("owes", i, hunter);
            }
            for (int ware = 0; ware < 6; ware++) {
                question("indent", i, ware, 7, 4);
                question("cost", i, ware, 7, 4, 9);
            }
        }
        for (int c = 0; c <= model.count(-1, 3); c++) {
            for (int what = 0; what <= 26; what++) {
                question("canoe", c, what);
            }
        }
    }

    private void question(String name, Object... args) {
        questions.add(new Made(name, args));
    }

    private void make(FurPosts made, String name, Object... args) throws ReflectiveOperationException {
        Made call = new Made(name, args);
        calls.add(call);
        compare(made, call);
    }

    private void compare(FurPosts made, Made call) throws ReflectiveOperationException {
        Object due = OF_MODEL.get(call.name).invoke(model, call.args);
        Object got = answer(made, call);
        if (!due.equals(got)) {
            wrong = true;
            System.out.println("RandomRunsTest: a run of " + calls.size() + " calls, its last ones:");
            for (Made last : calls.subList(Math.max(0, calls.size() - 12), calls.size())) {
                System.out.println(last.name + Arrays.toString(last.args));
            }
            System.out.println(call.name + Arrays.toString(call.args) + " answered " + got + ", due is " + due);
        }
    }

    private static Object answer(FurPosts made, Made call) throws IllegalAccessException {
        try {
            return OF_MADE.get(call.name).invoke(made, call.args);
        } catch (InvocationTargetException e) {
            return e.getCause();
        }
    }
}
