/** Promises 1, 2, 3 and 20: a new object, post, way, next. */
public final class PostsAndWaysTest {
    private static final int ALWAYS = 1000364;
    private static final Check CHECK = new Check("PostsAndWaysTest");

    public static void main(String[] args) {
        newObject();
        posts();
        waysThatCome();
        waysThatAreRefused();
        twelveWays();
        nextPosts();
        nextChangesWithWays();
        CHECK.end();
    }

    private static void newObject() {
        FurPosts x = new FurPosts();
        CHECK.due("NONE", FurPosts.NONE, -1);
        for (int what = 0; what <= 5; what++) {
            CHECK.due("new: count(NONE, " + what + ")", x.count(-1, what), 0);
        }
        CHECK.due("new: told(0, 0)", x.told(0, 0), -1);
        CHECK.due("new: canoe(0, 0)", x.canoe(0, 0), -1);
        CHECK.due("new: price(0, 0)", x.price(0, 0), -1);
        CHECK.due("new: store(0, 0, 1)", x.store(0, 0, 1), -1);
        CHECK.due("new: send(0, 0)", x.send(0, 0), -1);
        CHECK.due("new: go(0)", x.go(0), 0);
    }

    private static void posts() {
        FurPosts x = new FurPosts();
        for (int i = 0; i < 8; i++) {
            CHECK.due("post()", x.post(), i);
            CHECK.due("count(NONE, 1)", x.count(-1, 1), i + 1);
            for (int ware = 0; ware < 6; ware++) {
                CHECK.due("told of a new post", x.told(i, ware), 0);
                CHECK.due("price at a new post", x.price(i, ware), 1);
            }
            CHECK.due("bag of a new post", x.told(i, 6), 0);
            CHECK.due("owed at a new post", x.told(i, 7), 0);
        }
        CHECK.due("ninth post()", x.post(), -1);
        CHECK.due("count(NONE, 1) behind it", x.count(-1, 1), 8);
        CHECK.due("told(8, 0)", x.told(8, 0), -1);
    }

    private static void waysThatCome() {
        FurPosts x = Check.posts(5);
        CHECK.due("way, least of all", x.way(0, 1, 1000000, 1), 0);
        CHECK.due("way, most of all", x.way(1, 2, 40000364, 500), 1);
        CHECK.due("way, open on the last day alone", x.way(3, 2, 40364364, 500), 2);
        CHECK.due("way, first is last", x.way(0, 4, 7100100, 30), 3);
        CHECK.due("count(NONE, 2)", x.count(-1, 2), 4);
        CHECK.due("next(0, 1)", x.next(0, 1), 1);
        CHECK.due("next(1, 0)", x.next(1, 0), 0);
    }

    private static void waysThatAreRefused() {
        FurPosts x = Check.posts(3);
        int[] bad = {0, 364, 999999, 41000000, 41000364, 1000365, 1365365, 1000999, 1999999, 1005004,
            1364363, -1, -1000364, Integer.MIN_VALUE, Integer.MAX_VALUE};
        for (int what : bad) {
            CHECK.due("way(0, 1, " + what + ", 5)", x.way(0, 1, what, 5), -1);
        }
        int[] noBurden = {0, -1, 501, Integer.MIN_VALUE, Integer.MAX_VALUE};
        for (int bears : noBurden) {
            CHECK.due("way(0, 1, .., " + bears + ")", x.way(0, 1, ALWAYS, bears), -1);
        }
        int[] noPost = {-1, 3, 8, Integer.MIN_VALUE, Integer.MAX_VALUE};
        for (int post : noPost) {
            CHECK.due("way(0, " + post + ")", x.way(0, post, ALWAYS, 5), -1);
            CHECK.due("way(" + post + ", 0)", x.way(post, 0, ALWAYS, 5), -1);
            CHECK.due("way of none with itself", x.way(post, post, ALWAYS, 5), -1);
        }
        CHECK.due("way(1, 1)", x.way(1, 1, ALWAYS, 5), -1);
        CHECK.due("no way came", x.count(-1, 2), 0);
        CHECK.due("next(0, 1)", x.next(0, 1), -1);
        CHECK.due("way(0, 1)", x.way(0, 1, ALWAYS, 5), 0);
        CHECK.due("way(0, 1) again", x.way(0, 1, ALWAYS, 5), -1);
        CHECK.due("way(1, 0)", x.way(1, 0, ALWAYS, 5), -1);
        CHECK.due("way(1, 2)", x.way(1, 2, ALWAYS, 5), 1);
        CHECK.due("way(0, 2), joined over 1 alone", x.way(0, 2, ALWAYS, 5), 2);
    }

    private static void twelveWays() {
        FurPosts x = Check.posts(8);
        int came = 0;
        for (int a = 0; a < 8; a++) {
            for (int b = a + 1; b < 8; b++) {
                CHECK.due("way(" + a + ", " + b + ")", x.way(a, b, ALWAYS, 5), came < 12 ? came++ : -1);
            }
        }
        CHECK.due("count(NONE, 2)", x.count(-1, 2), 12);
        CHECK.due("next(1, 6)", x.next(1, 6), 6);
        CHECK.due("next(2, 3), not joined", x.next(2, 3), 0);
    }

    private static void nextPosts() {
        FurPosts x = Check.posts(8);
        // A ring 0 - 3 - 6 - 1 - 4 - 0, with 2 hanging at 6, and 5 - 7 apart.
        x.way(0, 3, ALWAYS, 5);
        x.way(6, 3, ALWAYS, 5);
        x.way(6, 1, ALWAYS, 5);
        x.way(1, 4, ALWAYS, 5);
        x.way(4, 0, ALWAYS, 5);
        x.way(2, 6, ALWAYS, 5);
        x.way(5, 7, ALWAYS, 5);
        CHECK.due("next(0, 6)", x.next(0, 6), 3);
        CHECK.due("next(0, 1)", x.next(0, 1), 4);
        CHECK.due("next(0, 2)", x.next(0, 2), 3);
        CHECK.due("next(2, 0)", x.next(2, 0), 6);
        CHECK.due("next(6, 0)", x.next(6, 0), 3);
        CHECK.due("next(6, 4)", x.next(6, 4), 1);
        CHECK.due("next(5, 7)", x.next(5, 7), 7);
        CHECK.due("next(0, 7)", x.next(0, 7), -1);
        CHECK.due("next(7, 0)", x.next(7, 0), -1);
        for (int p = -1; p <= 8; p++) {
            CHECK.due("next(p, p)", x.next(p, p), -1);
            CHECK.due("next(p, -1)", x.next(p, -1), -1);
            CHECK.due("next(8, p)", x.next(8, p), -1);
        }
        CHECK.due("next(MIN, MAX)", x.next(Integer.MIN_VALUE, Integer.MAX_VALUE), -1);
    }

    private static void nextChangesWithWays() {
        FurPosts x = Check.posts(6);
        x.way(0, 5, ALWAYS, 5);
        x.way(5, 4, ALWAYS, 5);
        x.way(4, 3, ALWAYS, 5);
        CHECK.due("next(0, 3) the long way", x.next(0, 3), 5);
        CHECK.due("next(3, 0) the long way", x.next(3, 0), 4);
        x.way(0, 2, ALWAYS, 5);
        CHECK.due("next(0, 3) with a blind end", x.next(0, 3), 5);
        x.way(2, 4, ALWAYS, 5);
        CHECK.due("next(0, 3), of like ones the least", x.next(0, 3), 2);
        CHECK.due("next(4, 0), of like ones the least", x.next(4, 0), 2);
        x.way(0, 3, 40100100, 1);
        CHECK.due("next(0, 3): ways count, not days", x.next(0, 3), 3);
        CHECK.due("next(3, 2)", x.next(3, 2), 0);
    }
}
