import java.util.ArrayList;
import java.util.List;

/**
 * All that can be seen of an object behind a run of calls: what every question answers, at once and
 * in some futures, which bring to light what no question tells (loads, letters under way).
 */
final class World {
    /** What an object answers behind so many calls is free. */
    static final int MOST_CALLS = 512;
    private static final int WARES = 6;
    private static final int HUNTERS = 12;

    private final List<Call> past;
    private final List<List<Call>> futures;
    private final List<Call> questions;
    private final List<Long> answers;

    World(List<Call> past) {
        this.past = new ArrayList<>(past);
        FurPosts x = behind(past);
        int posts = x.count(FurPosts.NONE, 1);
        int ways = x.count(FurPosts.NONE, 2);
        int canoes = x.count(FurPosts.NONE, 3);
        this.questions = questions(posts, canoes);
        this.futures = futures(posts, ways, canoes);
        this.answers = answersBehind(this.past);
    }

    /** The first thing that is not as it was when the call has been made, too; null if there is none. */
    String changeBy(Call call) {
        List<Call> longer = new ArrayList<>(past);
        longer.add(call);
        List<Long> others = answersBehind(longer);
        int i = 0;
        for (List<Call> future : futures) {
            for (List<Call> asked : List.of(future, questions)) {
                for (Call question : asked) {
                    if (!answers.get(i).equals(others.get(i))) {
                        return question + " in the future " + future + ": " + others.get(i) + ", not " + answers.get(i);
                    }
                    i++;
                }
            }
        }
        return null;
    }

    private static FurPosts behind(List<Call> calls) {
        FurPosts x = new FurPosts();
        for (Call call : calls) {
            call.on(x);
        }
        return x;
    }

    /** Each future is told on as many new objects as are needed to stay below the most calls. */
    private List<Long> answersBehind(List<Call> calls) {
        List<Long> all = new ArrayList<>();
        for (List<Call> future : futures) {
            int asked = 0;
            do {
                FurPosts x = behind(calls);
                for (Call call : future) {
                    long answer = call.on(x);
                    if (asked == 0) {
                        all.add(answer);
                    }
                }
                int left = MOST_CALLS - past.size() - 1 - future.size();
                if (left < 1) {
                    throw new IllegalStateException("no call is left behind " + future);
                }
                for (int end = Math.min(asked + left, questions.size()); asked < end; asked++) {
                    all.add(questions.get(asked).on(x));
                }
            } while (asked < questions.size());
        }
        return all;
    }

    private static List<Call> questions(int posts, int canoes) {
        List<Call> all = new ArrayList<>();
        askOfTheWhole(all);
        for (int p = 0; p <= posts && p < 8; p++) {
            askOfPost(all, p);
            for (int other = 0; other < posts; other++) {
                askOfTwoPosts(all, p, other);
            }
        }
        for (int c = 0; c <= canoes && c < 120; c++) {
            if (c < 4 || c > canoes - 3) {
                askOfCanoe(all, c);
            }
        }
        return all;
    }

    private static void askOfTheWhole(List<Call> all) {
        for (int what = 0; what < 6; what++) {
            for (int ware = -1; ware < WARES; ware++) {
                all.add(Call.named("count", ware, what));
            }
        }
        for (int ware = 0; ware < WARES; ware++) {
            for (int q = 0; q <= 20; q++) {
                all.add(Call.named("cost", 0, ware, 1, 0, q));
            }
        }
    }

    private static void askOfPost(List<Call> all, int post) {
        for (int what = 0; what < 8; what++) {
            all.add(Call.named("told", post, what));
        }
        for (int ware = 0; ware < WARES; ware++) {
            all.add(Call.named("price", post, ware));
            all.add(Call.named("indent", post, ware, 3, 2));
        }
        for (int hunter = 0; hunter < HUNTERS; hunter++) {
            all.add(Call.named("owes", post, hunter));
        }
    }

    private static void askOfTwoPosts(List<Call> all, int a, int b) {
        all.add(Call.named("next", a, b));
        all.add(Call.named("quarrel", a, b));
        all.add(Call.named("knownDay", a, b));
        for (int ware = 0; ware < WARES; ware++) {
            all.add(Call.named("known", a, b, ware));
        }
    }

    private static void askOfCanoe(List<Call> all, int c) {
        for (int what = 0; what < 8; what++) {
            all.add(Call.named("canoe", c, what));
        }
        for (int ware = 0; ware < WARES; ware++) {
            all.add(Call.named("canoe", c, 10 + ware));
            all.add(Call.named("canoe", c, 20 + ware));
        }
    }

    private List<List<Call>> futures(int posts, int ways, int canoes) {
        List<List<Call>> all = new ArrayList<>();
        all.add(List.of());
        all.add(List.of(Call.named("go", 1)));
        all.add(List.of(Call.named("go", 40)));
        all.add(List.of(Call.named("go", 400)));
        all.add(withNewWays(posts));
        all.add(withNewLetters());
        all.add(withLostCanoes(canoes));
        all.add(withCanoesOverAllWays(posts, ways));
        all.add(withAsMuchAsTheFirstWayBears());
        for (int ware = 0; ware < WARES; ware++) {
            all.add(withALoadOf(ware));
        }
        return all;
    }

    private static List<Call> withNewWays(int posts) {
        List<Call> future = new ArrayList<>();
        future.add(Call.named("post"));
        for (int a = 0; a <= posts && a < 8; a++) {
            for (int b = a + 1; b <= posts && b < 8; b++) {
                future.add(Call.named("way", a, b, 1000364, 500));
            }
        }
        return future;
    }

    private static List<Call> withNewLetters() {
        List<Call> future = new ArrayList<>(noLoads());
        future.add(Call.named("order", 0, 1, 0, 77));
        future.add(Call.named("report", 0, 1));
        future.add(Call.named("debt", 0, 1, 0));
        future.add(Call.named("send", 0, 0));
        future.add(Call.named("go", 40));
        return future;
    }

    private static List<Call> withLostCanoes(int canoes) {
        List<Call> future = new ArrayList<>();
        for (int c = 0; c < canoes; c++) {
            if (c < 4 || c > canoes - 3) {
                future.add(Call.named("lose", c));
            }
        }
        return future;
    }

    /** Three times over, if there are calls enough: most letters have come then. */
    private List<Call> withCanoesOverAllWays(int posts, int ways) {
        List<Call> future = new ArrayList<>(noLoads());
        int roundCalls = posts * ways + 1;
        int rounds = Math.min(3, (MOST_CALLS - past.size() - 60) / roundCalls);
        for (int round = 0; round < rounds; round++) {
            for (int way = 0; way < ways; way++) {
                for (int post = 0; post < posts; post++) {
                    future.add(Call.named("send", post, way));
                }
            }
            future.add(Call.named("go", 40));
        }
        return future;
    }

    private static List<Call> withAsMuchAsTheFirstWayBears() {
        List<Call> future = new ArrayList<>(noLoads());
        future.add(Call.named("store", 0, 0, 500));
        for (int n : new int[] {500, 499, 21, 20, 11, 10, 6, 5, 2, 1}) {
            future.add(Call.named("load", 0, n));
            future.add(Call.named("send", 0, 0));
        }
        return future;
    }

    private static List<Call> withALoadOf(int ware) {
        List<Call> future = new ArrayList<>(noLoads());
        future.remove(ware);
        future.add(Call.named("store", 0, ware, 500));
        future.add(Call.named("store", 1, ware, 500));
        future.add(Call.named("send", 0, 0));
        future.add(Call.named("send", 1, 0));
        return future;
    }

    private static List<Call> noLoads() {
        List<Call> loads = new ArrayList<>();
        for (int ware = 0; ware < WARES; ware++) {
            loads.add(Call.named("load", ware, 0));
        }
        return loads;
    }
}
