/** Term 4 and the promises 21 to 23: want, indent, cost. */
final class WantsEdges {
    private WantsEdges() {
    }

    static void tell(Edges edges) {
        parts(edges);
        whatItCosts(edges);
        leastCost(edges);
        wanting(edges);
        indents(edges);
        indentsRefused(edges);
        costs(edges);
    }

    private static void parts(Edges edges) {
        edges.holds("Term 4", "WANTS of a ware: PARTS (0 .. 1000) for 0 .. 20 of them, all 0 at first", """
            post()
            no cost(0, {0, 1, 2, 3, 4, 5}, 1, 1, 0)
            want({0, 1, 2, 3, 4, 5}, 20, 1000) = 1
            cost(0, {0, 1, 2, 3, 4, 5}, 1, 1, 0) = 20000
            want(0, 20, 0) = 1
            no cost(0, 0, 1, 1, 0)
            want(0, 0, 1000) = 1
            cost(0, 0, 1, 1, 0) = 0
            cost(0, 0, 1, 1, 1) = 1000
            no want(0, 0, {MIN, -1, 1001, MAX})
            no want(0, {MIN, -1, 21, MAX}, 0)
            no want(0, {-1, 21}, 1000)
            """);
        edges.holds("Term 4", "RIGHT if together 1000", """
            post()
            want(1, 0, 1000)
            want(2, 0, 1)
            want(0, {0, 1, 2, 3, 4, 5, 6, 7, 8, 9, 10, 11, 12, 13, 14, 15, 16, 17, 18, 19}, 50) = 1
            cost(0, 0, 1, 1, 0) = 9500
            want(0, 20, 1)
            no cost(0, 0, 1, 1, 0)           # 1001
            no indent(0, 0, 1, 1)
            want(0, 0, 49)
            cost(0, 0, 1, 1, 0) = 9520       # 1000
            want(0, 19, 49)
            no cost(0, 0, 1, 1, 0)           # 999
            no indent(0, 0, 1, 1)
            want(0, 20, 2)
            cost(0, 0, 1, 1, 0) = 9521
            want(0, 20, 1000)
            no cost(0, 0, 1, 1, 0)
            """);
    }

    private static void whatItCosts(Edges edges) {
        edges.holds("Term 4", "With n in the STORE (1000, if there are more), an ORDER of q costs", """
            2 x post()
            want(0, 0, 1000)
            cost(0, 0, 1, 1, 0) = 0
            store(0, 0, 999)
            cost(0, 0, 1, 1, 0) = 999000
            store(0, 0, 1)
            cost(0, 0, 1, 1, 0) = 1000000
            cost(0, 0, 1, 1, 20) = 1020000
            store(0, 0, 1)
            cost(0, 0, 1, 1, 0) = 1000000
            cost(0, 0, 100, 100, 20) = 102000000
            9 x store(0, 0, 10000)
            store(0, 0, 8999) = 100000
            cost(0, 0, 1, 1, 0) = 1000000
            cost(0, 0, 1, 1, 20) = 1020000
            cost(1, 0, 1, 1, 0) = 0          # each post for itself
            """);
        edges.holds("Term 4", "for each number k of WANTS its PARTS times: LACK for each that is wanted beyond n and q", """
            post()
            want(0, 0, 100)
            want(0, 4, 500)
            want(0, 20, 400)
            cost(0, 0, 3, 0, 0) = 30000      # 500 * 4 * 3 + 400 * 20 * 3
            cost(0, 0, 3, 0, 3) = 21900
            cost(0, 0, 3, 0, 4) = 19200
            cost(0, 0, 3, 0, 19) = 1200
            cost(0, 0, 3, 0, 20) = 0
            store(0, 0, 3)
            cost(0, 0, 3, 0, 1) = 19200
            cost(0, 0, 3, 0, 16) = 1200
            cost(0, 0, 3, 0, 17) = 0
            cost(0, 0, 3, 0, 20) = 0
            cost(0, 0, 0, 0, 0) = 0
            """);
        edges.holds("Term 4", "SPOILT for each of n and q beyond what is wanted", """
            post()
            want(0, 0, 100)
            want(0, 4, 500)
            want(0, 20, 400)
            cost(0, 0, 0, 2, 0) = 0
            cost(0, 0, 0, 2, 1) = 200
            cost(0, 0, 0, 2, 4) = 800
            cost(0, 0, 0, 2, 5) = 2000       # 100 * 5 * 2 + 500 * 1 * 2
            cost(0, 0, 0, 2, 20) = 20000
            store(0, 0, 1)
            cost(0, 0, 0, 2, 20) = 22000     # one beyond the most that is wanted
            cost(0, 0, 0, 2, 0) = 200
            cost(0, 0, 3, 2, 4) = 20000      # both: 100 * 5 * 2 + 500 * 1 * 2 + 400 * 15 * 3
            """);
    }

    private static void leastCost(Edges edges) {
        edges.holds("Term 4", "The INDENT is the least q of 0 .. 20 of least cost", """
            post()
            want(0, 20, 1000)
            indent(0, 0, 1, 1) = 20
            indent(0, 0, 0, 1) = 0
            indent(0, 0, 0, 0) = 0           # all cost nothing
            want(1, 5, 500)
            want(1, 9, 500)
            indent(0, 1, 1, 1) = 5           # 5 to 9 cost alike
            indent(0, 1, 2, 1) = 9
            indent(0, 1, 1, 2) = 5
            store(0, 1, 7)
            indent(0, 1, 1, 1) = 0
            indent(0, 1, 2, 1) = 2
            store(0, 1, 2)
            indent(0, 1, 100, 0) = 0
            want(2, 0, 1000)
            indent(0, 2, 100, 0) = 0         # 0 to 20 cost alike
            store(0, 0, 1)
            indent(0, 0, 1, 1) = 19
            """);
    }

    private static void wanting(Edges edges) {
        edges.holds("Promise 21", "PARTS of WANTS: true", """
            want(0, 0, 0) = 1                # before there is a post
            want(5, 20, 1000) = 1
            want(5, 20, 400) = 1             # so many, not so many more
            want(5, 1, 600) = 1
            post()
            cost(0, 5, 1, 0, 0) = 8600
            no cost(0, 4, 1, 0, 0)
            """);
        edges.holds("Promise 21", "false if there is no such ware, number or PARTS", """
            post()
            want({0, 5}, {0, 20}, 500) = 1
            no want({MIN, -1, 6, MAX}, 0, 1)
            no want(5, {MIN, -1, 21, MAX}, 1)
            no want(5, {0, 20}, {MIN, -1, 1001, MAX})
            cost(0, {0, 5}, 1, 0, 0) = 10000
            """);
    }

    private static void indents(Edges edges) {
        edges.holds("Promise 22", "The INDENT of a ware for a POST: the order", """
            2 x post()
            want({0, 5}, 6, 300)
            want({0, 5}, 10, 300)
            want({0, 5}, 11, 400)
            indent({0, 1}, {0, 5}, 50, 50) = 10
            indent(0, 0, 3, 7) = 6           # 6 to 10 cost alike
            indent(0, 0, 4, 2) = 11
            store(1, 5, 4)
            indent(1, 5, 50, 50) = 6
            indent(0, 5, 50, 50) = 10
            store(1, 5, 7)
            indent(1, 5, 50, 50) = 0
            indent(1, 5, 50, 50) = 0         # nothing is ordered by it
            told(1, 5) = 11
            """);
        edges.holds("Promise 22", "NONE if WANTS aren't RIGHT", """
            post()
            no indent(0, 0, 1, 1)
            want(0, 3, 999)
            no indent(0, 0, 1, 1)
            want(0, 0, 1)
            indent(0, 0, 1, 1) = 3
            want(0, 20, 1)
            no indent(0, 0, 1, 1)
            no indent(0, 1, 1, 1)
            """);
    }

    private static void indentsRefused(Edges edges) {
        edges.holds("Promise 22", "there is no such POST or ware", """
            want({0, 1, 2, 3, 4, 5}, 2, 1000)
            no indent(0, 0, 1, 1)
            2 x post()
            indent({0, 1}, {0, 5}, 1, 1) = 2
            no indent({MIN, -1, 2, 7, 8, MAX}, 0, 1, 1)
            no indent(0, {MIN, -1, 6, MAX}, 1, 1)
            """);
        edges.holds("Promise 22", "or LACK or SPOILT isn't 0 .. 100", """
            want(0, 2, 1000)
            post()
            indent(0, 0, {1, 100}, {0, 1, 100}) = 2
            indent(0, 0, 0, {0, 1, 100}) = 0
            no indent(0, 0, {MIN, -1, 101, MAX}, 1)
            no indent(0, 0, 1, {MIN, -1, 101, MAX})
            """);
    }

    private static void costs(Edges edges) {
        edges.holds("Promise 23", "What an order of q (0 .. 20) costs so", """
            post()
            want(0, 7, 1000)
            cost(0, 0, 5, 3, 0) = 35000
            cost(0, 0, 5, 3, 7) = 0
            cost(0, 0, 5, 3, 20) = 39000
            no cost(0, 0, 5, 3, {MIN, -1, 21, MAX})
            """);
        edges.holds("Promise 23", "NONE likewise", """
            want(0, 2, 1000)
            no cost(0, 0, 1, 1, 0)
            2 x post()
            want(5, 2, 999)
            cost({0, 1}, 0, {0, 100}, 100, 2) = 0
            cost(0, 0, 100, {0, 100}, 0) = 200000
            no cost({MIN, -1, 2, 7, 8, MAX}, 0, 1, 1, 0)
            no cost(0, {MIN, -1, 6, MAX}, 1, 1, 0)
            no cost(0, 0, {MIN, -1, 101, MAX}, 1, 0)
            no cost(0, 0, 1, {MIN, -1, 101, MAX}, 0)
            no cost(0, 5, 1, 1, 0)
            want(5, 3, 1)
            cost(0, 5, 1, 1, 0) = 2001
            want(5, 3, 2)
            no cost(0, 5, 1, 1, 0)
            """);
    }
}
