/** Promises 24 to 27: quarrel, canoe, told, count. */
final class TellingEdges {
    private TellingEdges() {
    }

    static void tell(Edges edges) {
        quarrels(edges);
        canoesAndWays(edges);
        canoesAndDays(edges);
        canoesAndWares(edges);
        canoesRefused(edges);
        posts(edges);
        wares(edges);
        waresUnderWay(edges);
        all(edges);
    }

    private static void quarrels(Edges edges) {
        edges.holds("Promise 24", "The CANOE at which BOOKS of two POSTS PART", """
            2 x post()
            way(0, 1, 1000364, 5)
            store(0, 0, 9)
            send(0, 0) = 0
            load(0, 2)
            send(0, 0) = 1
            send(1, 0) = 2
            spoil(1, 0, 1)
            lose(2)
            quarrel({0, 1}, {1, 0})
            quarrel(0, 1) = 2
            quarrel(1, 0) = 2
            go(1)
            quarrel(0, 1) = 1
            quarrel(1, 0) = 1
            """);
        edges.holds("Promise 24", "NONE if they don't, or one is none", """
            no quarrel(0, 1)
            3 x post()
            way(0, 1, 1000364, 5)
            way(1, 2, 1000364, 5)
            no quarrel(0, 1)
            send(0, 0)
            no quarrel(0, 1)
            go(1)
            no quarrel(0, 1)
            send(0, 0)
            lose(1)
            quarrel(0, 1) = 1
            no quarrel(0, 2)
            no quarrel(1, 2)
            no quarrel({0, 1, 2}, {-1, 3, 7, 8, MIN, MAX})
            no quarrel({-1, 3, 7, 8, MIN, MAX}, {0, 1, 2})
            no quarrel(0, 0)
            no quarrel(1, 1)
            no quarrel(-1, -1)
            """);
    }

    private static void canoesAndWays(Edges edges) {
        edges.holds("Promise 25", "Of a CANOE: 0 from, 1 to which POST, 2 the WAY", """
            8 x post()
            way(7, 0, 1000364, 5)
            way(0, 6, 1000364, 5)
            send(7, 0) = 0
            send(0, 0) = 1
            send(0, 1) = 2
            canoe(0, 0) = 7
            canoe(0, 1) = 0
            canoe(0, 2) = 0
            canoe(1, 0) = 0
            canoe(1, 1) = 7
            canoe(1, 2) = 0
            canoe(2, 0) = 0
            canoe(2, 1) = 6
            canoe(2, 2) = 1
            lose(2)
            go(1)
            canoe(0, 0) = 7
            canoe(0, 1) = 0
            canoe(2, 1) = 6
            canoe(2, 2) = 1
            """);
        edges.holds("Promise 25", "7 LETTERS with which it was sent", """
            2 x post()
            way(0, 1, 1000364, 5)
            send(0, 0) = 0
            300 x order(0, 1, 0, 5)
            send(0, 0) = 1
            send(0, 0) = 2
            canoe(0, 7) = 0
            canoe(1, 7) = 300
            canoe(2, 7) = 0
            go(1)
            canoe(1, 7) = 300
            """);
    }

    private static void canoesAndDays(Edges edges) {
        edges.holds("Promise 25", "3 DAYS to go (0 if it isn't under way)", """
            2 x post()
            way(0, 1, 40000364, 5)
            send(0, 0)
            send(0, 0)
            canoe({0, 1}, 3) = 40
            go(39)
            canoe({0, 1}, 3) = 1
            lose(1)
            canoe(1, 3) = 0
            go(1)
            canoe({0, 1}, 3) = 0
            go(5)
            canoe({0, 1}, 3) = 0
            """);
        edges.holds("Promise 25", "4 0 under way, 1 it came, 2 it is LOST", """
            2 x post()
            way(0, 1, 2000364, 5)
            send(0, 0)
            send(0, 0)
            canoe({0, 1}, 4) = 0
            go(1)
            canoe({0, 1}, 4) = 0
            lose(1)
            canoe(1, 4) = 2
            go(1)
            canoe(0, 4) = 1
            canoe(1, 4) = 2
            """);
        edges.holds("Promise 25", "5 the DAY on which it was sent", """
            2 x post()
            way(0, 1, 2000364, 5)
            send(0, 0) = 0
            7 x go(400)
            go(199) = 2999
            send(0, 0) = 1
            go(1) = 3000
            canoe(0, 5) = 0
            canoe(1, 5) = 2999
            lose(1)
            canoe(1, 5) = 2999
            """);
        edges.holds("Promise 25", "6 the DAY on which it came (NONE)", """
            2 x post()
            way(0, 1, 1000364, 5)
            send(0, 0) = 0
            send(0, 0) = 1
            canoe({0, 1}, 6) = -1
            lose(1)
            go(1)
            canoe(0, 6) = 0
            canoe(1, 6) = -1                 # lost
            7 x go(400)
            go(198) = 2999
            send(0, 0) = 2
            go(1) = 3000
            canoe(2, 6) = 2999
            """);
    }

    private static void canoesAndWares(Edges edges) {
        edges.holds("Promise 25", "10 .. 15 how many of a ware it has (0 if it came)", """
            2 x post()
            way(0, 1, 1000364, 500)
            store(0, {0, 1, 2, 3, 4, 5}, 500)
            load(0, 2)
            load(5, 498)
            send(0, 0) = 0
            load({0, 1, 2, 3, 4, 5}, 2)
            send(0, 0) = 1
            canoe(0, 10) = 2
            canoe(0, {11, 12, 13, 14}) = 0
            canoe(0, 15) = 498
            spoil(0, 5, 8)
            canoe(0, 15) = 490
            canoe(1, {10, 11, 12, 13, 14, 15}) = 2
            lose(1)
            canoe(1, {10, 11, 12, 13, 14, 15}) = 0
            go(1)
            canoe(0, {10, 11, 12, 13, 14, 15}) = 0
            no canoe({0, 1}, {9, 16})
            """);
        edges.holds("Promise 25", "20 .. 25 with how many it was sent", """
            2 x post()
            way(0, 1, 1000364, 500)
            store(0, {0, 1, 2, 3, 4, 5}, 500)
            load(0, 2)
            load(5, 498)
            send(0, 0) = 0
            load({0, 1, 2, 3, 4, 5}, 2)
            send(0, 0) = 1
            spoil(0, 5, 498)
            lose(1)
            go(1)
            canoe(0, 20) = 2
            canoe(0, {21, 22, 23, 24}) = 0
            canoe(0, 25) = 498
            canoe(1, {20, 21, 22, 23, 24, 25}) = 2
            no canoe({0, 1}, {19, 26})
            """);
    }

    private static void canoesRefused(Edges edges) {
        edges.holds("Promise 25", "NONE for others, or if there is none such", """
            2 x post()
            way(0, 1, 1000364, 500)
            no canoe(0, {0, 7, 10, 25})
            go(1)
            send(0, 0) = 0
            canoe(0, 0) = 0
            canoe(0, 7) = 0
            no canoe(0, {MIN, -1, 8, 9, 16, 17, 18, 19, 26, 27, 30, MAX})
            no canoe({MIN, -1, 1, 119, 120, MAX}, {0, 5, 10, 20})
            """);
    }

    private static void posts(Edges edges) {
        edges.holds("Promise 26", "Of a POST: 0 .. 5 how many of a ware are in the STORE", """
            2 x post()
            store(1, 0, 10000)
            store(1, 5, 3)
            told(1, 0) = 10000
            told(1, {1, 2, 3, 4}) = 0
            told(1, 5) = 3
            told(0, {0, 5}) = 0
            """);
        edges.holds("Promise 26", "6 LETTERS in its BAG", """
            3 x post()
            way(0, 1, 1000364, 5)
            way(1, 2, 1000364, 5)
            told({0, 1, 2}, 6) = 0
            299 x order(0, 2, 0, 5)
            order(0, 1, 0, 5) = 299
            told(0, 6) = 300
            told({1, 2}, 6) = 0
            send(0, 0)
            told({0, 1, 2}, 6) = 0
            go(1)
            told(1, 6) = 299
            told({0, 2}, 6) = 0
            """);
        edges.holds("Promise 26", "7 what all HUNTERS owe it", """
            2 x post()
            told(0, 7) = 0
            store(0, 0, 100)
            sell(0, 0, 0, 10)
            sell(0, 11, 0, 5)
            told(0, 7) = 15
            buy(0, 5, 0, 16)
            told(0, 7) = -1
            told(1, 7) = 0
            debt(0, 1, 5) = -16
            told(0, 7) = 15
            """);
        edges.holds("Promise 26", "NONE for others, or no such POST", """
            no told(0, {0, 6, 7})
            2 x post()
            told({0, 1}, {0, 5, 6, 7}) = 0
            no told(0, {MIN, -1, 8, 9, 10, MAX})
            no told({MIN, -1, 2, 7, 8, MAX}, {0, 6, 7})
            """);
    }

    private static void wares(Edges edges) {
        edges.holds("Promise 27", "Of a ware (0 .. 5; what 0: came in from over sea", """
            2 x post()
            store(0, 0, 10000)
            store(1, 0, 1)
            store(1, 5, 4)
            buy(0, 0, 0, 3)
            give(0, 0, 0, 3)
            count(0, 0) = 10001
            count({1, 2, 3, 4}, 0) = 0
            count(5, 0) = 4
            """);
        edges.holds("Promise 27", "1: SOLD", """
            2 x post()
            store({0, 1}, {0, 5}, 10)
            sell(0, 0, 0, 10)
            sell(1, 11, 0, 1)
            sell(1, 0, 5, 3)
            count(0, 1) = 11
            count({1, 2, 3, 4}, 1) = 0
            count(5, 1) = 3
            count({0, 5}, {2, 3, 4, 5}) = 0
            """);
        edges.holds("Promise 27", "2: BOUGHT", """
            2 x post()
            buy(0, 0, 0, 10)
            buy(1, 11, 0, 1)
            buy(1, 0, 5, 3)
            count(0, 2) = 11
            count({1, 2, 3, 4}, 2) = 0
            count(5, 2) = 3
            count({0, 5}, {0, 1, 3, 4, 5}) = 0
            """);
        edges.holds("Promise 27", "3: GIVEN", """
            2 x post()
            store({0, 1}, {0, 5}, 10)
            give(0, 0, 0, 10)
            give(1, 11, 0, 1)
            give(1, 0, 5, 3)
            count(0, 3) = 11
            count({1, 2, 3, 4}, 3) = 0
            count(5, 3) = 3
            count({0, 5}, {1, 2, 4, 5}) = 0
            """);
    }

    private static void waresUnderWay(Edges edges) {
        edges.holds("Promise 27", "4: LOST", """
            2 x post()
            way(0, 1, 1000364, 500)
            store({0, 1}, {0, 5}, 10)
            load(0, 10)
            send(0, 0) = 0
            load(0, 1)
            load(5, 3)
            send(1, 0) = 1
            lose(0)
            lose(1)
            count(0, 4) = 11
            count({1, 2, 3, 4}, 4) = 0
            count(5, 4) = 3
            count({0, 5}, {1, 2, 3, 5}) = 0
            """);
        edges.holds("Promise 27", "5: SPOILT)", """
            2 x post()
            way(0, 1, 1000364, 500)
            store({0, 1}, {0, 5}, 10)
            load(0, 10)
            send(0, 0) = 0
            load(0, 1)
            load(5, 3)
            send(1, 0) = 1
            spoil(0, 0, 10)
            spoil(1, 0, 1)
            spoil(1, 5, 2)
            lose(1)                          # what is spoilt isn't lost
            count(0, 5) = 11
            count({1, 2, 3, 4}, 5) = 0
            count(5, 5) = 2
            count(0, 4) = 0
            count(5, 4) = 1
            """);
    }

    private static void all(Edges edges) {
        edges.holds("Promise 27", "of NONE: what 0: NOW, 1: POSTS, 2: WAYS, 3: CANOES, 4: LETTERS", """
            4 x post()
            way({1, 2, 3}, 0, 1000364, 500)
            2 x send(0, 0)
            5 x order(0, 1, 0, 5)
            go(9)
            lose(0)
            count(NONE, 0) = 9
            count(NONE, 1) = 4
            count(NONE, 2) = 3
            count(NONE, 3) = 2
            count(NONE, 4) = 5
            count(NONE, 5) = 0
            """);
        edges.holds("Promise 27", "5: DEBTS LOST", """
            2 x post()
            way(0, 1, 1000364, 500)
            buy(0, {0, 1, 2, 3}, 0, 100)
            debt(0, 1, {0, 1, 2}) = -100
            order(0, 1, 0, 5)
            report(0, 1)
            count(NONE, 5) = 0
            send(0, 0)
            count(NONE, 5) = 0
            lose(0)
            count(NONE, 5) = 3               # the letters, not the coins
            debt(0, 1, 3) = -100
            send(0, 0)
            send(0, 0)
            lose(2)                          # with no letter
            go(1)
            no lose(1)
            count(NONE, 5) = 3
            """);
        edges.holds("Promise 27", "NONE for others", """
            post()
            store(0, 0, 5)
            count({NONE, 0, 5}, 5) = 0
            no count({NONE, 0, 5}, {MIN, -1, 6, 7, MAX})
            no count({MIN, -2, 6, 7, MAX}, {0, 1, 5})
            """);
    }
}
