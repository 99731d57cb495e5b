/** Promises 10 to 14: sell, buy, give, owes, price. */
final class BooksEdges {
    private BooksEdges() {
    }

    static void tell(Edges edges) {
        selling(edges);
        sellingTooMuch(edges);
        buying(edges);
        buyingTooMuch(edges);
        giving(edges);
        owing(edges);
        prices(edges);
    }

    private static void selling(Edges edges) {
        edges.holds("Promise 10", "Wares are SOLD to a HUNTER: what is owed then", """
            2 x post()
            way(0, 1, 1000364, 500)
            order(0, 1, 5, 100)
            send(0, 0)
            go(1)
            store(1, {0, 5}, 20)
            sell(1, 11, 5, 2) = 200
            sell(1, 11, 0, 3) = 203
            sell(1, 0, 0, 1) = 1
            told(1, 5) = 18
            told(1, 0) = 16
            count(5, 1) = 2
            count(0, 1) = 4
            """);
        edges.holds("Promise 10", "NONE (and nothing is) if there is no such POST, HUNTER or ware", """
            2 x post()
            store(1, {0, 5}, 20)
            sell(1, {0, 11}, 0, 1) = 1
            sell(1, {0, 11}, 5, 1) = 2
            no sell({-1, 2, 8, MIN, MAX}, 0, 0, 1)
            no sell(1, {-1, 12, MIN, MAX}, 0, 1)
            no sell(1, 0, {-1, 6, MIN, MAX}, 1)
            """);
        edges.holds("Promise 10", "n isn't 1 .. 1000", """
            post()
            store(0, 0, 5000)
            no sell(0, 0, 0, {MIN, -1, 0, 1001, MAX})
            sell(0, 0, 0, 1) = 1
            sell(0, 0, 0, 1000) = 1001
            no sell(0, 0, 0, {MIN, -1, 0, 1001, MAX})
            told(0, 0) = 3999
            """);
    }

    private static void sellingTooMuch(Edges edges) {
        edges.holds("Promise 10", "there isn't so much", """
            2 x post()
            store(0, 0, 5)
            store(0, 1, 100)
            store(1, 0, 100)
            no sell(0, 0, 0, 6)
            sell(0, 0, 0, 4) = 4
            no sell(0, 0, 0, 2)
            sell(0, 0, 0, 1) = 5
            no sell(0, 0, 0, 1)
            """);
        edges.holds("Promise 10", "or more than 100000 would be owed", """
            2 x post()
            way(0, 1, 1000364, 500)
            order(0, 1, 0, 100)
            send(0, 0)
            go(1)
            store(1, 0, 5000)
            store(1, 1, 5000)
            sell(1, 0, 0, 999) = 99900
            sell(1, 0, 1, 1) = 99901
            no sell(1, 0, 0, 1)              # 100001
            no sell(1, 0, 1, 100)            # 100001
            sell(1, 0, 1, 99) = 100000
            no sell(1, 0, 1, 1)
            sell(1, 1, 0, 1000) = 100000     # each for himself
            no sell(1, 1, 0, 1000)
            buy(1, 0, 1, 1) = 99999
            no sell(1, 0, 1, 2)
            sell(1, 0, 1, 1) = 100000
            """);
    }

    private static void buying(Edges edges) {
        edges.holds("Promise 11", "Wares are BOUGHT of a HUNTER: what is owed then", """
            2 x post()
            way(0, 1, 1000364, 500)
            order(0, 1, 5, 100)
            send(0, 0)
            go(1)
            buy(1, 11, 5, 2) = -200
            buy(1, 11, 0, 3) = -203
            buy(1, 0, 0, 1) = -1             # owed, not refused
            owes(1, 0) = -1
            told(1, 5) = 2
            told(1, 0) = 4
            count(5, 2) = 2
            count(0, 2) = 4
            """);
        edges.holds("Promise 11", "NONE likewise (without \"there isn't so much\"", """
            2 x post()
            buy(1, 0, 0, 1000) = -1000       # though there is nothing
            buy(1, 11, 5, 2) = -2
            buy(1, {0, 11}, 5, 1)
            owes(1, 0) = -1001
            no buy({-1, 2, 8, MIN, MAX}, 0, 0, 1)
            no buy(1, {-1, 12, MIN, MAX}, 0, 1)
            no buy(1, 0, {-1, 6, MIN, MAX}, 1)
            no buy(1, 0, 0, {MIN, -1, 0, 1001, MAX})
            told(1, 0) = 1000
            told(1, 5) = 4
            """);
    }

    private static void buyingTooMuch(Edges edges) {
        edges.holds("Promise 11", "the STORE would have more than 100000", """
            2 x post()
            9 x store(0, 0, 10000) = 90000
            store(0, 0, 9995) = 99995
            no buy(0, 0, 0, 6)
            buy(0, 0, 0, 4) = -4
            no buy(0, 0, 0, 2)
            buy(0, 0, 0, 1) = -5
            no buy(0, 0, 0, 1)
            told(0, 0) = 100000
            buy(0, 0, 1, 1) = -6             # of each ware
            buy(1, 0, 0, 1) = -1             # at each post
            """);
        edges.holds("Promise 11", "or less than -100000 would be owed)", """
            2 x post()
            way(0, 1, 1000364, 500)
            order(0, 1, 0, 100)
            send(0, 0)
            go(1)
            buy(1, 0, 0, 999) = -99900
            buy(1, 0, 1, 1) = -99901
            no buy(1, 0, 0, 1)               # -100001
            no buy(1, 0, 1, 100)
            buy(1, 0, 1, 99) = -100000
            no buy(1, 0, 1, 1)
            buy(1, 1, 0, 1000) = -100000
            no buy(1, 1, 0, 1000)
            sell(1, 0, 1, 1) = -99999
            no buy(1, 0, 1, 2)
            buy(1, 0, 1, 1) = -100000
            """);
    }

    private static void giving(Edges edges) {
        edges.holds("Promise 12", "Wares are GIVEN: how many there are yet", """
            2 x post()
            store(1, 5, 1500)
            give(1, 0, 5, 1) = 1499
            give(1, 11, 5, 1000) = 499
            give(1, 0, 5, 499) = 0
            count(5, 3) = 1500
            """);
        edges.holds("Promise 12", "NONE as of sell()", """
            2 x post()
            store(1, 0, 5000)
            store(1, 5, 3)
            no give({-1, 2, 8, MIN, MAX}, 0, 0, 1)
            no give(1, {-1, 12, MIN, MAX}, 0, 1)
            no give(1, 0, {-1, 6, MIN, MAX}, 1)
            no give(1, 0, 0, {MIN, -1, 0, 1001, MAX})
            no give(1, 0, 5, 4)
            give(1, 0, 5, 3) = 0
            no give(1, 0, 5, 1)
            give(1, {0, 11}, 0, 1)
            give(1, 0, 0, 1000) = 3998
            """);
        edges.holds("Promise 12", "(nothing is owed)", """
            2 x post()
            way(0, 1, 1000364, 500)
            order(0, 1, 0, 100)
            send(0, 0)
            go(1)
            store(1, 0, 5000)
            sell(1, 3, 0, 1000) = 100000
            give(1, 3, 0, 1000) = 3000       # to one who can't owe more
            owes(1, 3) = 100000
            give(1, 4, 0, 1000) = 2000
            owes(1, 4) = 0
            told(1, 7) = 100000
            """);
    }

    private static void owing(Edges edges) {
        edges.holds("Promise 13", "What a HUNTER owes at a POST", """
            2 x post()
            store({0, 1}, 0, 50)
            sell(0, 0, 0, 1)
            sell(0, 11, 0, 12)
            buy(1, 11, 0, 5)
            owes(0, 0) = 1
            owes(0, 11) = 12
            owes(1, 0) = 0
            owes(1, 11) = -5
            debt(0, 1, 11) = 12
            owes(0, 11) = 0
            """);
        edges.holds("Promise 13", "0 if there is none such", """
            no owes(0, 0)
            2 x post()
            buy({0, 1}, {0, 1, 2, 3, 4, 5, 6, 7, 8, 9, 10, 11}, 0, 5)
            owes({0, 1}, {0, 11}) = -5
            no owes({-1, 2, 7, 8, MIN, MAX}, 0)
            no owes(0, {-1, 12, MIN, MAX})
            no owes(-1, -1)
            """);
    }

    private static void prices(Edges edges) {
        edges.holds("Promise 14", "The PRICE of a ware at a POST", """
            2 x post()
            way(0, 1, 1000364, 500)
            order(0, 1, 0, 100)
            order(0, 1, 5, 2)
            send(0, 0)
            go(1)
            price(1, 0) = 100
            price(1, 5) = 2
            price(1, {1, 2, 3, 4}) = 1
            price(0, {0, 5}) = 1
            """);
        edges.holds("Promise 14", "NONE if there is none such", """
            no price(0, 0)
            2 x post()
            price({0, 1}, {0, 5}) = 1
            no price({-1, 2, 7, 8, MIN, MAX}, 0)
            no price(0, {-1, 6, MIN, MAX})
            """);
    }
}
