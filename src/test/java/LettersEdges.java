/** Promises 15 to 20: order, debt, report, known, knownDay, next. */
final class LettersEdges {
    private LettersEdges() {
    }

    static void tell(Edges edges) {
        orders(edges);
        ordersRefused(edges);
        debts(edges);
        debtsRefused(edges);
        reports(edges);
        known(edges);
        knownDays(edges);
        nextPosts(edges);
    }

    private static void orders(Edges edges) {
        edges.holds("Promise 15", "An ORDER is written: the LETTER's number (of all)", """
            2 x post()
            buy(0, 0, 0, 5)
            order(0, 1, 0, 1) = 0
            report(1, 0) = 1
            debt(0, 1, 0) = -5
            order(1, 0, 5, 100) = 3
            order(0, 1, 0, 1) = 4
            told(0, 6) = 3
            told(1, 6) = 2
            count(NONE, 4) = 5
            """);
        edges.holds("Promise 15", "NONE if there is no such POST", """
            2 x post()
            no order({-1, 2, 7, 8, MIN, MAX}, 1, 0, 5)
            no order(0, {-1, 2, 7, 8, MIN, MAX}, 0, 5)
            no order(-1, 2, 0, 5)
            order(0, 1, 0, 5) = 0
            order(1, 0, 0, 5) = 1
            post() = 2
            order(2, 0, 0, 5) = 2
            """);
        edges.holds("Promise 15", "both are one", """
            2 x post()
            no order(0, 0, 0, 5)
            no order(1, 1, 0, 5)
            order(1, 0, 0, 5) = 0
            """);
    }

    private static void ordersRefused(Edges edges) {
        edges.holds("Promise 15", "no such ware", """
            2 x post()
            no order(0, 1, {-1, 6, MIN, MAX}, 5)
            order(0, 1, 0, 5) = 0
            order(0, 1, 5, 5) = 1
            """);
        edges.holds("Promise 15", "a price isn't 1 .. 100", """
            2 x post()
            way(0, 1, 1000364, 5)
            no order(0, 1, 0, {MIN, -1, 0, 101, MAX})
            order(0, 1, 0, 100) = 0
            send(0, 0)
            go(1)
            price(1, 0) = 100
            order(0, 1, 0, 1) = 1
            no order(0, 1, 0, {0, 101})
            send(0, 0)
            go(1)
            price(1, 0) = 1
            """);
        edges.holds("Promise 15", "or 300 were written", """
            2 x post()
            way(0, 1, 1000364, 5)
            299 x order(0, 1, 0, 5) = 298
            order(0, 1, 0, 6) = 299
            no order(0, 1, 0, 7)
            no order(1, 0, 0, 7)
            send(0, 0)
            canoe(0, 7) = 300
            go(1)
            price(1, 0) = 6
            no order(0, 1, 0, 7)
            """);
    }

    private static void debts(Edges edges) {
        edges.holds("Promise 16", "A DEBT is written: what is in it", """
            2 x post()
            way(0, 1, 1000364, 5)
            store(0, 0, 50)
            sell(0, 0, 0, 30)
            buy(0, 11, 0, 20)
            debt(0, 1, 0) = 30
            debt(0, 1, 11) = -20
            owes(0, {0, 11}) = 0
            count(NONE, 4) = 2
            told(0, 6) = 2
            send(0, 0)
            go(1)
            owes(1, 0) = 30
            owes(1, 11) = -20
            debt(1, 0, 0) = 30               # and back
            """);
        edges.holds("Promise 16", "NONE (-1 may be in it, too) likewise", """
            3 x post()
            way(0, 1, 1000364, 5)
            buy(0, 0, 0, 1) = -1
            no debt({-1, 3, 7, 8, MIN, MAX}, 1, 0)
            no debt(0, {-1, 3, 7, 8, MIN, MAX}, 0)
            no debt(0, 0, 0)                 # both are one
            owes(0, 0) = -1
            debt(0, 1, 0) = -1               # written
            owes(0, 0) = 0
            count(NONE, 4) = 1
            no debt(0, 1, 0)                 # refused
            buy(0, {0, 1}, 0, 7)
            298 x report(1, 0) = 298
            debt(0, 1, 0) = -7               # the 300th
            no debt(0, 1, 1)
            owes(0, 1) = -7
            send(0, 0)
            go(1)
            owes(1, 0) = -8
            """);
    }

    private static void debtsRefused(Edges edges) {
        edges.holds("Promise 16", "or if there is no such HUNTER", """
            2 x post()
            buy({0, 1}, {0, 1, 2, 3, 4, 5, 6, 7, 8, 9, 10, 11}, 0, 4)
            no debt(0, 1, {-1, 12, MIN, MAX})
            debt(0, 1, 0) = -4
            debt(0, 1, 11) = -4
            """);
        edges.holds("Promise 16", "or nothing is owed", """
            2 x post()
            store({0, 1}, 0, 10)
            sell(1, 3, 0, 1) = 1
            no debt(0, 1, 3)                 # not here
            sell(0, 3, 0, 2) = 2
            buy(0, 3, 0, 2) = 0
            no debt(0, 1, 3)
            give(0, 3, 0, 2)
            no debt(0, 1, 3)
            sell(0, 3, 0, 1) = 1
            no debt(0, 1, {2, 4})
            debt(0, 1, 3) = 1
            no debt(0, 1, 3)
            buy(0, 3, 0, 2) = -2
            debt(0, 1, 3) = -2               # below 0 isn't nothing
            no debt(0, 1, 3)
            count(NONE, 4) = 2
            """);
    }

    private static void reports(Edges edges) {
        edges.holds("Promise 17", "A REPORT is written: the LETTER's number", """
            2 x post()
            way(0, 1, 1000364, 5)
            order(0, 1, 0, 5) = 0
            report(0, 1) = 1
            report(1, 0) = 2
            store(0, 5, 7)
            report(0, 1) = 3
            told(0, 6) = 3
            send(0, 0)
            go(1)
            known(1, 0, 5) = 7
            """);
        edges.holds("Promise 17", "NONE likewise", """
            2 x post()
            no report({-1, 2, 7, 8, MIN, MAX}, 0)
            no report(0, {-1, 2, 7, 8, MIN, MAX})
            no report(0, 0)
            no report(1, 1)
            report(0, 1) = 0
            299 x report(1, 0) = 299
            no report(0, 1)
            no report(1, 0)
            count(NONE, 4) = 300
            """);
    }

    private static void known(Edges edges) {
        edges.holds("Promise 18", "How many of a ware are KNOWN at a POST to be at another one", """
            3 x post()
            way(0, 1, 1000364, 5)
            way(1, 2, 1000364, 5)
            store(0, 0, 3)
            store(0, 5, 8)
            report(0, 1)
            send(0, 0)
            give(0, 0, 0, 3)
            go(1)
            known(1, 0, 0) = 3
            known(1, 0, 5) = 8
            known(1, 0, {1, 2, 3, 4}) = 0
            known(0, 0, 0) = 0
            """);
        edges.holds("Promise 18", "NONE if no REPORT came", """
            3 x post()
            way(0, 1, 2000364, 5)
            way(1, 2, 1000364, 5)
            store(0, 0, 3)
            no known(1, 0, 0)
            report(0, 1)
            order(0, 2, 0, 5)
            no known(1, 0, 0)
            send(0, 0)
            go(1)
            no known(1, 0, 0)
            go(1)
            known(1, 0, 0) = 3
            no known(0, 1, 0)
            no known(2, {0, 1}, 0)
            report(0, 1)
            report(0, 2)
            send(0, 0)
            lose(1)
            go(2)
            known(1, 0, 0) = 3               # the one that is lost doesn't come
            no known(2, 0, 0)
            """);
        edges.holds("Promise 18", "or there is none such", """
            no known(0, 0, 0)
            2 x post()
            way(0, 1, 1000364, 5)
            report(0, 1)
            send(0, 0)
            go(1)
            known(1, 0, {0, 5}) = 0
            no known({-1, 2, 7, 8, MIN, MAX}, 0, 0)
            no known(1, {-1, 2, 7, 8, MIN, MAX}, 0)
            no known({1, 0}, 0, {-1, 6, MIN, MAX})
            no known(2, 2, 0)
            no known(-1, -1, 0)
            """);
    }

    private static void knownDays(Edges edges) {
        edges.holds("Promise 19", "The DAY of that REPORT (NOW, of itself)", """
            2 x post()
            way(0, 1, 5000364, 5)
            knownDay(0, 0) = 0
            report(0, 1)
            go(3)
            knownDay({0, 1}, {0, 1})
            knownDay(0, 0) = 3
            send(0, 0)
            go(5)
            knownDay(1, 0) = 0               # written on day 0, sent on 3, came on 7
            knownDay(1, 1) = 8
            7 x go(400)
            go(400) = 3000
            report(1, 0) = 1
            knownDay(0, 0) = 3000
            knownDay(1, 0) = 0
            """);
        edges.holds("Promise 19", "NONE likewise", """
            no knownDay(0, 0)
            2 x post()
            way(0, 1, 2000364, 5)
            no knownDay(1, 0)
            report(0, 1)
            send(0, 0)
            go(1)
            no knownDay(1, 0)
            go(1)
            knownDay(1, 0) = 0
            no knownDay(0, 1)
            no knownDay({-1, 2, 7, 8, MIN, MAX}, 0)
            no knownDay(1, {-1, 2, 7, 8, MIN, MAX})
            no knownDay(2, 2)
            no knownDay(-1, -1)
            """);
    }

    private static void nextPosts(Edges edges) {
        edges.holds("Promise 20", "The NEXT POST of a LETTER from one POST to another one", """
            8 x post()
            way(0, 1, 1000364, 5)
            way(1, 2, 1000364, 5)
            way(2, 3, 1000364, 5)
            way(3, 4, 1000364, 5)
            way(4, 5, 1000364, 5)
            way(5, 6, 1000364, 5)
            way(6, 7, 1000364, 5)
            next(0, {1, 2, 3, 4, 5, 6, 7}) = 1
            next(7, {0, 1, 2, 3, 4, 5, 6}) = 6
            way(7, 0, 1000364, 5)            # a ring: 4 is as far either way
            next(0, {1, 2, 3, 4}) = 1
            next(0, {5, 6, 7}) = 7
            next(4, 0) = 3
            next(7, 3) = 0
            """);
        edges.holds("Promise 20", "NONE if there is none (also if both are one)", """
            no next(0, 0)
            4 x post()
            no next(0, 1)
            way(0, 1, 1000364, 5)
            way(2, 3, 1000364, 5)
            next(0, 1) = 1
            no next({0, 1}, {2, 3})
            no next({2, 3}, {0, 1})
            no next({-1, 4, 7, 8, MIN, MAX}, 0)
            no next(0, {-1, 4, 7, 8, MIN, MAX})
            no next(0, 0)
            no next(1, 1)
            no next(-1, -1)
            """);
    }
}
