/** 'What is refused changes nothing.': every call is refused once for each reason, where much could change. */
final class RefusalsEdges {
    /** A company with something of everything; where it matters each reason to refuse is the only one. */
    private static final String BUSY = """
            8 x post()
            way(0, 1, 2000364, 20) = 0
            way(1, 2, 2010020, 20) = 1       # frozen now
            way(0, 3, 1000364, 500) = 2
            way(0, 4, 40000364, 500) = 3
            10 x store(2, 4, 10000) = 100000
            store(0, {0, 1, 5}, 30) = 30
            store(1, 0, 9) = 9
            want({0, 5}, 0, 400)
            want({0, 5}, 3, 500)
            want({0, 5}, 20, 100)
            want(2, 3, 999)                  # not right
            order(0, 5, 1, 50) = 0           # no way leads there
            load(0, 1)
            send(0, 3) = 0                   # canoe 0 is under way for long
            order(0, 1, 4, 100) = 1
            send(0, 0) = 1
            go(2) = 2                        # canoe 1 came
            store(1, 4, 3000)
            sell(1, 5, 4, 1000) = 100000
            buy(1, 6, 4, 1000) = -100000
            sell(0, 3, 0, 5) = 5
            buy(0, 4, 1, 5) = -5
            send(0, 0) = 2
            lose(2) = 0                      # canoe 2 is lost
            order(0, 1, 3, 7) = 2
            report(0, 1) = 3
            load(0, 4)
            load(5, 3)
            send(0, 0) = 3
            go(1) = 3                        # canoe 3 is under way, with 4 and 3, and two letters
            order(0, 2, 4, 9) = 4
            report(0, 3) = 5
            debt(0, 1, 4) = -5
            order(1, 0, 2, 8) = 7
            load(0, 15)
            load(5, 8)                       # 23, where way 0 bears 20
            """;

    private RefusalsEdges() {
    }

    static void tell(Edges edges) {
        whatBringsSomething(edges);
        canoes(edges);
        hunters(edges);
        letters(edges);
        questions(edges);
        fullOfWays(edges);
        fullOfCanoes(edges);
        fullOfLetters(edges);
        endOfDays(edges);
        noneIsMinusOne(edges);
    }

    private static void whatBringsSomething(Edges edges) {
        edges.holds("Term 5", "What is refused changes nothing", BUSY + """
            no post()
            no way(0, 1, 3000364, 30)
            no way(1, 0, 1000364, 500)
            no way(4, 4, 1000364, 5)
            no way(4, {-1, 8}, 1000364, 5)
            no way({-1, 8}, 4, 1000364, 5)
            no way(4, 5, {-1, 0, 364, 41000364, 1000365, 1002001}, 5)
            no way(4, 5, 1000364, {0, 501})
            no store({-1, 8}, 0, 1)
            no store(0, {-1, 6}, 1)
            no store(0, 0, {0, 10001})
            no store(2, 4, 1)
            no want({-1, 6}, 0, 5)
            no want(0, {-1, 21}, 5)
            no want(0, {0, 20}, {-1, 1001})
            no want(2, 3, 1001)
            want(2, 0, 1)
            cost(1, 2, 1, 1, 0) = 2997       # 999 for 3, as it was
            """);
    }

    private static void canoes(Edges edges) {
        edges.holds("Term 5", "What is refused changes nothing", BUSY + """
            no load({-1, 6}, 1)
            no load({0, 1, 5}, {-1, 501})
            no send({-1, 2, 8}, 0)
            no send(0, {-1, 1, 4, 12})
            no send(1, 1)                    # frozen
            no send(0, 0)                    # too much for the way
            no send(3, 2)                    # there isn't so much
            no lose({-1, 1, 2, 4, 120})
            no spoil({-1, 1, 2, 4, 120}, 0, 1)
            no spoil(3, {-1, 1, 6}, 1)
            no spoil(3, 0, {-1, 0, 5})
            no go({-1, 401})
            load(5, 5)
            send(0, 0) = 4
            canoe(4, 20) = 15
            canoe(4, 25) = 5
            canoe(4, 7) = 2
            canoe(4, 5) = 3
            lose(3) = 7
            """);
    }

    private static void hunters(Edges edges) {
        edges.holds("Term 5", "What is refused changes nothing", BUSY + """
            no sell({-1, 8}, 3, 0, 1)
            no sell(0, {-1, 12}, 0, 1)
            no sell(0, 3, {-1, 6}, 1)
            no sell(0, 3, 0, {0, 21, 1001})
            no sell(1, 5, 4, 1)
            no buy({-1, 8}, 3, 0, 1)
            no buy(0, {-1, 12}, 0, 1)
            no buy(0, 3, {-1, 6}, 1)
            no buy(0, 3, 0, {0, 1001})
            no buy(2, 0, 4, 1)
            no buy(1, 6, 4, 1)
            no give({-1, 8}, 3, 0, 1)
            no give(0, {-1, 12}, 0, 1)
            no give(0, 3, {-1, 6}, 1)
            no give(0, 3, 0, {0, 21, 1001})
            no owes({-1, 8}, 3)
            no owes(0, {-1, 12})
            no price({-1, 8}, 0)
            no price(0, {-1, 6})
            sell(0, 3, 0, 20) = 25
            """);
    }

    private static void letters(Edges edges) {
        edges.holds("Term 5", "What is refused changes nothing", BUSY + """
            no order({-1, 8}, 1, 4, 9)
            no order(0, {-1, 0, 8}, 4, 9)
            no order(0, 1, {-1, 6}, 9)
            no order(0, 1, 4, {0, 101})
            no debt({-1, 8}, 1, 3)
            no debt(0, {-1, 0, 8}, 3)
            no debt(0, 1, {-1, 12})
            no debt(0, 1, 4)
            no report({-1, 8}, 1)
            no report(0, {-1, 0, 8})
            order(0, 1, 4, 9) = 8
            debt(0, 1, 3) = 5
            """);
    }

    private static void questions(Edges edges) {
        edges.holds("Term 5", "What is refused changes nothing", BUSY + """
            no known({-1, 8}, 0, 0)
            no known(0, {-1, 1, 8}, 0)
            no known({0, 1}, 0, {-1, 6})
            no knownDay({-1, 8}, 0)
            no knownDay(0, {-1, 1, 8})
            no next({-1, 0, 8}, 0)
            no next(0, {-1, 5, 8})
            no indent({-1, 8}, 0, 1, 1)
            no indent(0, {-1, 2, 6}, 1, 1)
            no indent(0, 0, {-1, 101}, 1)
            no indent(0, 0, 1, {-1, 101})
            no cost({-1, 8}, 0, 1, 1, 0)
            no cost(0, {-1, 2, 6}, 1, 1, 0)
            no cost(0, 0, {-1, 101}, 1, 0)
            no cost(0, 0, 1, {-1, 101}, 0)
            no cost(0, 0, 1, 1, {-1, 21})
            no quarrel({-1, 0, 3, 8}, 0)
            no quarrel(0, {-1, 8})
            no canoe({-1, 4, 120}, 0)
            no canoe(3, {-1, 8, 9, 16, 19, 26})
            no told({-1, 8}, 0)
            no told(0, {-1, 8})
            no count({-2, 6}, 0)
            no count({-1, 0}, {-1, 6})
            cost({1, 3}, 5, 1, 0, 0) = 3500  # 500 * 3 + 100 * 20
            cost(2, 0, 1, 0, 0) = 3500
            told(0, 6) = 4
            """);
    }

    private static void fullOfWays(Edges edges) {
        edges.holds("Term 5", "What is refused changes nothing", BUSY + """
            way(4, {1, 2, 3, 5, 6, 7}, 1000364, 5)
            way(5, {6, 7}, 1000364, 5)
            count(NONE, 2) = 12
            no way(6, 7, 1000364, 5)
            """);
    }

    private static void fullOfCanoes(Edges edges) {
        edges.holds("Term 5", "What is refused changes nothing", BUSY + """
            load({0, 5}, 0)
            116 x send(3, 2) = 119
            load(0, 4)
            no send(0, 2)
            no send(0, 0)
            """);
    }

    private static void fullOfLetters(Edges edges) {
        edges.holds("Term 5", "What is refused changes nothing", BUSY + """
            292 x order(3, 0, 1, 5) = 299
            no order(0, 1, 4, 9)
            no debt(0, 1, 3)
            no report(0, 1)
            """);
    }

    private static void endOfDays(Edges edges) {
        edges.holds("Term 5", "What is refused changes nothing", BUSY + """
            7 x go(400)
            go(400) = 3000
            no send(0, 2)
            """);
    }

    private static void noneIsMinusOne(Edges edges) {
        edges.holds("Term 5", "The constants: `NONE = -1`: There is none", """
            told(-1, 0) = -1
            told(NONE, 0) = -1
            count(-1, 0) = 0
            """);
    }
}
