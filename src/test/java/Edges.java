import java.util.ArrayList;
import java.util.List;

/**
 * Tests told as scripts, one for each sentence of the document. A line of a script is a call:
 *
 *   store(0, 5, 1) = 1        its answer is due
 *   store(0, 5, 1)            its answer doesn't matter here
 *   7 x go(400) = 2800        made seven times; the last answer is due
 *   no store(0, {-1, 6}, 1)   refused (here two calls), and nothing has changed behind it
 *
 * What stands behind a # is for the reader.
 */
final class Edges {
    private final Document document = new Document();
    private final String test;
    private int scripts;
    private int answers;
    private int wrong;
    private String sentence;
    private FurPosts object;
    private int made;
    private List<Call> taken;
    private World world;

    Edges(String test) {
        this.test = test;
    }

    /** What the script asks is what this sentence of the document promises. */
    void holds(String section, String words, String script) {
        sentence = section + ", '" + words + "'";
        scripts++;
        if (!document.quote(section, words)) {
            tellWrong("the document doesn't say that");
        }
        object = new FurPosts();
        made = 0;
        taken = new ArrayList<>();
        world = null;
        runScript(script);
        if (made > World.MOST_CALLS) {
            tellWrong("the script has " + made + " calls");
        }
    }

    void end() {
        String left = document.unquoted();
        if (!left.isEmpty()) {
            sentence = "the whole document";
            tellWrong("no script is for:\n" + left);
        }
        System.out.println(test + ": " + scripts + " sentences, " + answers + " answers, " + wrong + " not as due");
        if (wrong != 0 || answers == 0) {
            System.exit(1);
        }
    }

    /** A call that throws ends its script, not those of the other sentences. */
    private void runScript(String script) {
        try {
            for (String line : script.split("\n")) {
                String plain = line.contains("#") ? line.substring(0, line.indexOf('#')) : line;
                if (!plain.isBlank()) {
                    runLine(plain.trim());
                }
            }
        } catch (Call.Thrown e) {
            tellWrong(e.getMessage());
        }
    }

    private void runLine(String line) {
        if (line.startsWith("no ")) {
            for (Call call : Call.all(line.substring(3).trim())) {
                runRefused(call);
            }
            return;
        }
        int equals = line.indexOf('=');
        String told = (equals < 0 ? line : line.substring(0, equals)).trim();
        int times = told.indexOf(" x ");
        int n = times < 0 ? 1 : Integer.parseInt(told.substring(0, times).trim());
        for (Call call : Call.all(times < 0 ? told : told.substring(times + 3).trim())) {
            long answer = run(call, n);
            if (equals >= 0) {
                due(call, answer, Long.parseLong(line.substring(equals + 1).trim()));
            }
        }
    }

    private long run(Call call, int times) {
        long answer = 0;
        for (int i = 0; i < times; i++) {
            answer = call.on(object);
            taken.add(call);
            made++;
        }
        world = null;
        return answer;
    }

    private void runRefused(Call call) {
        made++;
        due(call, call.on(object), call.refusal());
        if (world == null) {
            world = new World(taken);
        }
        String change = world.changeBy(call);
        answers++;
        if (change != null) {
            tellWrong(call + " was refused, but behind it there answers " + change);
        }
    }

    private void due(Call call, long got, long want) {
        answers++;
        if (got != want) {
            tellWrong(call + " (call " + made + ") answered " + got + ", due is " + want);
        }
    }

    private void tellWrong(String what) {
        wrong++;
        System.out.println(test + ": " + sentence + ": " + what);
    }
}
