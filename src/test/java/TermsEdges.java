/** The Terms 1, 2, 3 and 5; for Term 4 see WantsEdges, for what is refused RefusalsEdges. */
final class TermsEdges {
    private TermsEdges() {
    }

    static void tell(Edges edges) {
        days(edges);
        postsAndWares(edges);
        ways(edges);
        canoesThatAreSent(edges);
        canoesThatGo(edges);
        canoesThatCome(edges);
        ordersInADay(edges);
        hunters(edges);
        lettersThatAreWritten(edges);
        lettersThatTravel(edges);
        nextPosts(edges);
        whatIsKnown(edges);
        booksThatPart(edges);
    }

    private static void days(Edges edges) {
        edges.holds("Term 1", "DAYS are 0 .. 3000 (NOW; 0 at first)", """
            count(NONE, 0) = 0
            go(0) = 0
            7 x go(400) = 2800
            go(199) = 2999
            go(1) = 3000
            go(1) = 3000
            go(400) = 3000
            count(NONE, 0) = 3000
            """);
        edges.holds("Term 1", "the day of the year is the rest by 365", """
            3 x post()
            way(0, 1, 1000000, 5) = 0        # open on day 0 alone
            way(1, 2, 1364364, 5) = 1        # open on day 364 alone
            send(0, 0) = 0
            no send(1, 1)
            go(1) = 1
            no send(0, 0)
            go(363) = 364
            no send(0, 0)
            send(1, 1) = 1
            go(1) = 365
            send(0, 0) = 2
            no send(1, 1)
            go(1) = 366
            no send(0, 0)
            go(363) = 729
            send(2, 1) = 3
            go(1) = 730
            send(1, 0) = 4
            5 x go(400) = 2730
            go(189) = 2919
            no send(0, 0)
            send(1, 1) = 5
            go(1) = 2920
            send(0, 0) = 6
            no send(1, 1)
            """);
    }

    private static void postsAndWares(Edges edges) {
        edges.holds("Term 1", "POSTS have numbers as they come, at most 8", """
            no told(0, 0)
            post() = 0
            told(0, 0) = 0
            no told(1, 0)
            post() = 1
            5 x post() = 6
            no told(7, 0)
            post() = 7
            told(7, 0) = 0
            no post()
            no told(8, 0)
            count(NONE, 1) = 8
            """);
        edges.holds("Term 1", "WARES are 0 .. 5", """
            2 x post()
            way(0, 1, 2000364, 500)
            store(0, {0, 5}, 100) = 100
            load({0, 5}, 4) = 1
            send(0, 0) = 0
            spoil(0, {0, 5}, 1) = 1
            sell(0, {0, 11}, 0, 1)
            sell(0, 0, 5, 2) = 3
            buy(0, 0, {0, 5}, 1)
            give(0, 0, {0, 5}, 3)
            order(0, 1, {0, 5}, 9)
            want({0, 5}, 0, 1000) = 1
            told(0, 0) = 92
            told(0, 5) = 92
            known(0, 0, {0, 5}) = 92
            price(0, {0, 5}) = 1
            indent(0, {0, 5}, 1, 1) = 0
            cost(0, {0, 5}, 0, 1, 0) = 92000
            canoe(0, {10, 15}) = 3
            canoe(0, {20, 25}) = 4
            count({0, 5}, 0) = 100
            no store(0, {-2, -1, 6, MIN, MAX}, 1)
            no load({-2, -1, 6, MIN, MAX}, 1)
            no spoil(0, {-2, -1, 6, MIN, MAX}, 1)
            no sell(0, 0, {-2, -1, 6, MIN, MAX}, 1)
            no buy(0, 0, {-2, -1, 6, MIN, MAX}, 1)
            no give(0, 0, {-2, -1, 6, MIN, MAX}, 1)
            no order(0, 1, {-2, -1, 6, MIN, MAX}, 9)
            no want({-2, -1, 6, MIN, MAX}, 0, 1000)
            no known(0, 0, {-2, -1, 6, MIN, MAX})
            no price(0, {-2, -1, 6, MIN, MAX})
            no indent(0, {-2, -1, 6, MIN, MAX}, 1, 1)
            no cost(0, {-2, -1, 6, MIN, MAX}, 0, 1, 0)
            no canoe(0, {9, 16, 19, 26})
            no count({-2, 6, MIN, MAX}, 0)
            """);
        edges.holds("Term 1", "a STORE has so many of each (0 at first)", """
            2 x post()
            way(0, 1, 1000364, 5)
            told({0, 1}, {0, 1, 2, 3, 4, 5}) = 0
            no give(0, 0, {0, 1, 2, 3, 4, 5}, 1)
            store(0, 2, 3) = 3
            told(0, {0, 1, 3, 4, 5}) = 0
            told(0, 2) = 3
            told(1, 2) = 0
            no give(0, 0, 1, 1)
            no give(1, 0, 2, 1)
            give(0, 0, 2, 3) = 0
            no give(0, 0, 2, 1)
            """);
    }

    private static void ways(Edges edges) {
        edges.holds("Term 1", "WAYS have numbers as they come, at most 12: two POSTS", """
            8 x post()
            way(0, 1, 1000364, 5) = 0
            way(0, {2, 3, 4, 5, 6, 7}, 1000364, 5)
            way(1, {2, 3, 4, 5}, 1000364, 5)
            count(NONE, 2) = 11
            no send(6, 11)
            way(6, 1, 1000364, 5) = 11
            send(1, 11) = 0
            canoe(0, 1) = 6
            send(6, 11) = 1
            canoe(1, 1) = 1
            no send({0, 7}, 11)
            no way(1, 7, 1000364, 5)
            no way(6, 7, 1000364, 5)
            no send(1, 12)
            count(NONE, 2) = 12
            """);
        edges.holds("Term 1", "how many DAYS it is LONG (1 .. 40)", """
            3 x post()
            no way(0, 1, 364, 5)             # 0 days
            no way(0, 1, 41000364, 5)
            no way(0, 1, -1000364, 5)
            way(0, 1, 1000364, 5) = 0
            way(1, 2, 40000364, 5) = 1
            send(0, 0) = 0
            send(1, 1) = 1
            canoe(0, 3) = 1
            canoe(1, 3) = 40
            go(1)
            canoe(0, 4) = 1
            canoe(1, 3) = 39
            go(38)
            canoe(1, 3) = 1
            canoe(1, 4) = 0
            go(1)
            canoe(1, 4) = 1
            """);
        edges.holds("Term 1", "the days of the year from which to which it is OPEN"
            + " (0 .. 364, the first not above the last; both too)", """
            5 x post()
            no way(0, 1, 1000365, 5)
            no way(0, 1, 1365365, 5)
            no way(0, 1, {1001000, 1101100, 1364363, 1364000}, 5)
            way(0, 1, 1000000, 5) = 0
            way(1, 2, 1364364, 5) = 1
            way(2, 3, 1100102, 5) = 2
            way(3, 4, 1000364, 5) = 3
            send(0, 0) = 0
            send(3, 3) = 1
            go(99) = 99
            no send(2, 2)
            go(1) = 100
            send(2, 2) = 2
            go(2) = 102
            send(2, 2) = 3
            go(1) = 103
            no send(2, 2)
            canoe(3, 6) = 102
            go(261) = 364
            no send(0, 0)
            send(1, 1) = 4
            send(3, 3) = 5
            go(1) = 365
            canoe({4, 5}, 6) = 364
            no send(1, 1)
            send(3, 3) = 6
            send(0, 0) = 7
            """);
        edges.holds("Term 1", "how much a CANOE on it BEARS (1 .. 500 wares)", """
            3 x post()
            no way(0, 1, 1000364, {0, -1, 501, MIN, MAX})
            way(0, 1, 1000364, 1) = 0
            way(1, 2, 1000364, 500) = 1
            store(1, {0, 5}, 600)
            load({0, 5}, 1)
            no send(1, 0)
            load(5, 0)
            send(1, 0) = 0
            load(0, 500)
            load(5, 1)
            no send(1, 1)
            load(0, 499)
            send(1, 1) = 1
            canoe(1, 20) = 499
            canoe(1, 25) = 1
            """);
    }

    private static void canoesThatAreSent(Edges edges) {
        edges.holds("Term 1", "CANOES have numbers as they come, at most 120", """
            2 x post()
            way(0, 1, 1000364, 5)
            send(0, 0) = 0
            118 x send(0, 0) = 118
            no canoe(119, 0)
            send(1, 0) = 119
            canoe(119, 0) = 1
            no send({0, 1}, 0)
            no canoe(120, 0)
            go(5)
            no send({0, 1}, 0)               # though all came
            count(NONE, 3) = 120
            """);
        edges.holds("Term 1", "sent from a POST over a WAY with wares out of the STORE, and with LETTERS", """
            2 x post()
            way(0, 1, 3000364, 500)
            store(0, 0, 7)
            store(0, 3, 9)
            store(1, 0, 1)
            order(0, 1, 0, 5)
            report(1, 0)
            load(0, 7)
            load(3, 8)
            send(0, 0) = 0
            told(0, 0) = 0
            told(0, 3) = 1
            told(1, 0) = 1
            told(1, 3) = 0
            told(0, 6) = 0
            told(1, 6) = 1
            canoe(0, 10) = 7
            canoe(0, 13) = 8
            canoe(0, 7) = 1
            send(0, 0) = 1                   # with nothing at all
            canoe(1, {7, 10, 13, 20, 23}) = 0
            """);
    }

    private static void canoesThatGo(Edges edges) {
        edges.holds("Term 1", "On each DAY that passes, one that is under way on a WAY that is OPEN on that DAY"
            + " goes on by one DAY", """
            3 x post()
            way(0, 1, 5010012, 5)
            way(1, 2, 5000364, 5)
            go(11)
            send(0, 0)
            send(1, 1)
            canoe({0, 1}, 3) = 5
            go(0) = 11
            canoe({0, 1}, 3) = 5
            go(1) = 12
            canoe({0, 1}, 3) = 4
            go(1) = 13                       # day 12 was the last
            canoe({0, 1}, 3) = 3
            go(1) = 14
            canoe(0, 3) = 3
            canoe(1, 3) = 2
            go(361) = 375
            canoe(0, 3) = 3
            go(1) = 376                      # day 375 was day 10 of the year
            canoe(0, 3) = 2
            go(1) = 377
            canoe(0, 3) = 1
            go(1) = 378
            canoe(0, 3) = 0
            canoe(0, 6) = 377
            canoe(1, 6) = 15
            """);
        edges.holds("Term 1", "when it has gone as many as that is LONG, it COMES on that DAY"
            + " (NOW is one more behind it)", """
            3 x post()
            way(0, 1, 1000364, 5)
            way(1, 2, 3000364, 5)
            send(0, 0) = 0
            canoe(0, 6) = -1
            go(1) = 1
            canoe(0, 6) = 0
            canoe(0, 4) = 1
            send(1, 1) = 1
            go(2) = 3
            canoe(1, 4) = 0
            canoe(1, 6) = -1
            go(1) = 4
            canoe(1, 4) = 1
            canoe(1, 6) = 3
            go(400)
            canoe(1, 6) = 3
            6 x go(400)
            go(195) = 2999
            send(0, 0) = 2                   # these have one day yet
            send(1, 1) = 3
            go(400) = 3000
            canoe(2, 6) = 2999
            canoe(3, 6) = -1
            canoe(3, 3) = 2
            """);
    }

    private static void canoesThatCome(Edges edges) {
        edges.holds("Term 1", "What it has then is in the STORE of the POST to which it went", """
            2 x post()
            way(1, 0, 1000364, 500)
            10 x store(1, 0, 10000) = 100000
            store(0, {0, 1}, 500)
            load(0, 500)
            send(0, 0) = 0
            load(1, 20)
            send(0, 0) = 1
            spoil(1, 1, 20)
            load(1, 5)
            send(0, 0) = 2
            spoil(2, 1, 1)
            told(1, 0) = 100000
            go(1)
            told(1, 0) = 100500              # a store may have more by canoes
            told(1, 1) = 4
            told(0, 0) = 0
            told(0, 1) = 475
            no store(1, 0, 1)
            no buy(1, 0, 0, 1)
            go(1)
            told(1, 0) = 100500              # once
            """);
        edges.holds("Term 1", "One that is LOST has nothing; what it had is LOST", """
            2 x post()
            way(0, 1, 2000364, 500)
            store(0, {0, 1, 2, 3, 4, 5}, 50)
            load(0, 1)
            load(5, 6)
            sell(0, 3, 1, 4) = 4
            debt(0, 1, 3) = 4
            order(0, 1, 2, 8)
            report(0, 1)
            send(0, 0) = 0
            send(0, 0) = 1                   # with nothing
            go(1)
            lose(0) = 7
            lose(1) = 0
            canoe(0, {10, 11, 12, 13, 14, 15}) = 0
            count(0, 4) = 1
            count(5, 4) = 6
            count({1, 2, 3, 4}, 4) = 0
            count(NONE, 5) = 1
            go(40)
            told(1, {0, 1, 2, 3, 4, 5}) = 0
            told(0, 0) = 49
            told({0, 1}, 6) = 0
            owes({0, 1}, 3) = 0
            price(1, 2) = 1
            known(1, 0, 0) = -1
            """);
    }

    private static void ordersInADay(Edges edges) {
        edges.holds("Term 1", "In a DAY: CANOES by numbers", """
            3 x post()
            way(0, 2, 1000364, 5)
            way(1, 2, 1000364, 5)
            order(0, 2, 0, 10)
            order(1, 2, 0, 20)
            order(1, 2, 1, 20)
            order(0, 2, 1, 10)
            send(1, 1) = 0
            send(0, 0) = 1
            go(1)
            canoe({0, 1}, 6) = 0
            price(2, {0, 1}) = 10            # those of canoe 1
            order(0, 2, 0, 30)
            order(1, 2, 0, 40)
            order(1, 2, 1, 40)
            order(0, 2, 1, 30)
            send(0, 0) = 2
            send(1, 1) = 3
            go(1)
            price(2, {0, 1}) = 40            # those of canoe 3
            """);
        edges.holds("Term 1", "LETTERS of a CANOE that COMES, in the order in which they were written", """
            3 x post()
            way(0, 1, 1000364, 5)
            way(1, 2, 1000364, 5)
            order(0, 2, 0, 10) = 0
            order(1, 2, 0, 20) = 1           # first in the bag of 1, but written second
            order(1, 2, 1, 20) = 2
            order(0, 2, 1, 10) = 3
            order(1, 2, 2, 30) = 4
            order(1, 2, 2, 40) = 5
            send(0, 0)
            go(1)
            send(1, 1)
            canoe(1, 7) = 6
            go(1)
            price(2, 0) = 20
            price(2, 1) = 10
            price(2, 2) = 40
            """);
    }

    private static void hunters(Edges edges) {
        edges.holds("Term 2", "HUNTERS are 0 .. 11", """
            2 x post()
            store(0, 0, 100)
            sell(0, {0, 11}, 0, 5) = 5
            buy(0, {0, 11}, 0, 2) = 3
            give(0, 0, 0, 1) = 93
            give(0, 11, 0, 1) = 92
            owes(0, {0, 11}) = 3
            no sell(0, {-1, 12, MIN, MAX}, 0, 1)
            no buy(0, {-1, 12, MIN, MAX}, 0, 1)
            no give(0, {-1, 12, MIN, MAX}, 0, 1)
            no debt(0, 1, {-1, 12, MIN, MAX})
            owes(0, {-1, 12, MIN, MAX}) = 0
            debt(0, 1, {0, 11}) = 3
            """);
        edges.holds("Term 2", "Each POST has a BOOK: what each HUNTER owes it (0 at first; below 0 it owes the HUNTER)", """
            2 x post()
            owes({0, 1}, {0, 1, 2, 3, 4, 5, 6, 7, 8, 9, 10, 11}) = 0
            buy(0, 4, 0, 3) = -3
            sell(0, 4, 0, 2) = -1
            owes(0, 4) = -1
            sell(0, 4, 0, 1) = 0
            buy(0, 4, 0, 1) = -1
            owes(1, 4) = 0
            owes(0, {3, 5}) = 0
            """);
        edges.holds("Term 2", "PRICES of wares are those that have COME to the POST (1 at first)", """
            2 x post()
            way(0, 1, 2000364, 5)
            price({0, 1}, {0, 1, 2, 3, 4, 5}) = 1
            order(0, 1, 3, 100)
            price(1, 3) = 1
            send(0, 0)
            go(1)
            price(1, 3) = 1
            go(1)
            price(1, 3) = 100
            price(0, 3) = 1
            price(1, {2, 4}) = 1
            order(0, 1, 3, 1)
            send(0, 0)
            go(2)
            price(1, 3) = 1
            """);
        edges.holds("Term 2", "SOLD: wares go from the STORE to a HUNTER, who owes their PRICE more", """
            2 x post()
            way(0, 1, 1000364, 5)
            order(0, 1, 3, 7)
            send(0, 0)
            go(1)
            store({0, 1}, 3, 10)
            sell(1, 2, 3, 3) = 21
            sell(1, 2, 3, 1) = 28
            sell(0, 2, 3, 4) = 4
            told(1, 3) = 6
            told(0, 3) = 6
            owes(1, 2) = 28
            """);
        edges.holds("Term 2", "BOUGHT: they come to the STORE, and the HUNTER owes it less", """
            2 x post()
            way(0, 1, 1000364, 5)
            order(0, 1, 3, 7)
            send(0, 0)
            go(1)
            buy(1, 2, 3, 3) = -21
            buy(1, 2, 3, 1) = -28
            buy(1, 2, 2, 5) = -33
            told(1, 3) = 4
            told(1, 2) = 5
            owes(1, 2) = -33
            """);
        edges.holds("Term 2", "GIVEN: they go, and nothing is owed", """
            post()
            store(0, 3, 10)
            give(0, 2, 3, 4) = 6
            give(0, 2, 3, 6) = 0
            told(0, 3) = 0
            owes(0, 2) = 0
            told(0, 7) = 0
            """);
    }

    private static void lettersThatAreWritten(Edges edges) {
        edges.holds("Term 3", "LETTERS are written at a POST to another one (at most 300 ever)", """
            2 x post()
            way(0, 1, 1000364, 5)
            buy(0, {0, 1}, 0, 3)
            no order(0, 0, 0, 5)
            no report(1, 1)
            no debt(0, 0, 0)
            order(0, 1, 0, 5) = 0
            100 x order(1, 0, 0, 6) = 100
            198 x report(0, 1) = 298
            debt(0, 1, 0) = -3               # the 300th
            count(NONE, 4) = 300
            no order(0, 1, 0, 5)
            no report(0, 1)
            no debt(0, 1, 1)
            send(0, 0)
            send(1, 0)
            lose(1) = 0
            go(1)
            no order(0, 1, 0, 5)             # though they came, or are lost
            no report(0, 1)
            no debt(0, 1, 1)
            count(NONE, 4) = 300
            owes(1, 0) = -3
            owes(0, 1) = -3
            """);
        edges.holds("Term 3", "an ORDER (a ware's PRICE there)", """
            3 x post()
            way(0, 1, 1000364, 5)
            way(1, 2, 1000364, 5)
            order(0, 2, 5, 100)
            order(0, 2, 0, 2)
            send(0, 0)
            go(1)
            price(1, {0, 5}) = 1             # there, not on the way
            send(1, 1)
            go(1)
            price(2, 5) = 100
            price(2, 0) = 2
            price({0, 1}, {0, 5}) = 1
            """);
        edges.holds("Term 3", "a DEBT (all that a HUNTER owes here: nothing is owed here then;"
            + " what is in it is owed there when it comes)", """
            2 x post()
            way(0, 1, 2000364, 5)
            store({0, 1}, 0, 50)
            sell(0, 11, 0, 5) = 5
            sell(1, 11, 0, 7) = 7
            buy(0, 0, 0, 9) = -9
            debt(0, 1, 11) = 5
            owes(0, 11) = 0
            debt(0, 1, 0) = -9
            owes(0, 0) = 0
            sell(0, 11, 0, 1) = 1
            debt(0, 1, 11) = 1
            send(0, 0)
            go(1)
            owes(1, 11) = 7
            owes(1, 0) = 0
            go(1)
            owes(1, 11) = 13
            owes(1, 0) = -9
            owes(0, {0, 11}) = 0
            """);
        edges.holds("Term 3", "a REPORT (what is in the STORE here, of all wares, and the DAY)", """
            2 x post()
            way(0, 1, 1000364, 5)
            store(0, 0, 10)
            store(0, 5, 15)
            report(0, 1)                     # on day 0
            send(0, 0)
            go(9)
            known(1, 0, 0) = 10
            known(1, 0, {1, 2, 3, 4}) = 0
            known(1, 0, 5) = 15
            knownDay(1, 0) = 0
            store(0, {1, 2, 3, 4}, 6)
            give(0, 0, 0, 10)
            report(0, 1)
            store(0, 0, 1)                   # behind the writing
            go(1)
            send(0, 0)
            go(1)
            known(1, 0, 0) = 0
            known(1, 0, {1, 2, 3, 4}) = 6
            known(1, 0, 5) = 15
            knownDay(1, 0) = 9
            """);
    }

    private static void lettersThatTravel(Edges edges) {
        edges.holds("Term 3", "They lie in the BAG of the POST till a CANOE is sent over the WAY to their NEXT POST:"
            + " those it takes, all of them", """
            4 x post()
            way(0, 1, 1000364, 5)
            way(0, 2, 1000364, 5)
            way(1, 3, 1000364, 5)
            way(2, 3, 1000364, 5)
            order(0, 1, 0, 5)
            order(0, 2, 0, 5)
            report(0, 3)
            order(0, 3, 0, 7)
            order(1, 0, 0, 9)
            told(0, 6) = 4
            go(5)
            told(0, 6) = 4
            no send(3, 0)
            load(0, 1)
            no send(0, 0)
            load(0, 0)
            send(0, 1) = 0                   # to 2: what is for 3 goes over 1
            canoe(0, 7) = 1
            told(0, 6) = 3
            send(0, 0) = 1
            canoe(1, 7) = 3
            told(0, 6) = 0
            told(1, 6) = 1
            send(0, 0) = 2
            canoe(2, 7) = 0
            """);
        edges.holds("Term 3", "LETTERS that come to a POST which isn't theirs are in its BAG then, behind those that are", """
            3 x post()
            way(0, 1, 1000364, 5)
            way(1, 2, 1000364, 5)
            buy(0, 0, 0, 2)
            order(1, 2, 0, 5)
            order(0, 2, 0, 6)
            debt(0, 2, 0) = -2
            report(0, 2)
            order(0, 1, 0, 8)
            send(0, 0)
            told(1, 6) = 1
            go(1)
            told(1, 6) = 4                   # the one for 1 is read
            told(0, 6) = 0
            price(1, 0) = 8
            owes(1, 0) = 0
            known(1, 0, 0) = -1
            send(1, 0) = 1
            canoe(1, 7) = 0
            send(1, 1) = 2
            canoe(2, 7) = 4
            go(1)
            told({1, 2}, 6) = 0
            price(2, 0) = 6
            owes(2, 0) = -2
            known(2, 0, 0) = 2
            """);
    }

    private static void nextPosts(Edges edges) {
        edges.holds("Term 3", "NEXT: of the POSTS joined with this one by a WAY that from which it is the fewest WAYS"
            + " to the one it is for (if there is a way at all), of like ones the least number", """
            8 x post()
            order(0, 3, 0, 5)
            next(0, 3) = -1                  # no way at all
            way(0, 5, 1000364, 5)
            next(0, 3) = -1
            send(0, 0)
            canoe(0, 7) = 0
            way(5, 4, 1000364, 5)
            way(4, 3, 1000364, 5)
            next(0, 3) = 5
            next(3, 0) = 4
            next(0, 5) = 5
            way(0, 6, 1000364, 5)
            next(0, 3) = 5                   # 6 leads nowhere
            way(6, 4, 1000364, 5)
            next(0, 3) = 5                   # like ones: 5 and 6
            next(3, 0) = 4
            next(4, 0) = 5
            way(2, 0, 1000364, 5)
            way(4, 2, 1000364, 5)
            next(0, 3) = 2                   # like ones: 2, 5 and 6
            next(4, 0) = 2
            way(6, 3, 40100100, 1)
            next(0, 3) = 6                   # fewest ways, however long, shut and small
            next(3, 0) = 6
            next(0, 4) = 2
            way(0, 3, 40100100, 1)
            next(0, 3) = 3
            next(3, 0) = 0
            way(7, 1, 1000364, 5)
            next(7, 1) = 1
            next({7, 1}, {0, 2, 3, 4, 5, 6}) = -1
            next({0, 2, 3, 4, 5, 6}, {1, 7}) = -1
            """);
    }

    private static void whatIsKnown(Edges edges) {
        edges.holds("Term 3", "KNOWN at a POST of another one is the REPORT with the greatest DAY that came", """
            3 x post()
            way(0, 1, 9000364, 5)
            way(1, 2, 1000364, 5)
            store(0, 0, 3)
            report(0, 2)                     # on day 0, over 1
            send(0, 0)
            go(1)
            store(0, 0, 4)
            way(0, 2, 1000364, 5)
            report(0, 2)                     # on day 1, straight
            known(2, 0, 0) = -1
            send(0, 2)
            go(1)
            known(2, 0, 0) = 7
            go(8)
            send(1, 1)
            canoe(2, 7) = 1
            go(1)
            canoe(2, 4) = 1
            known(2, 0, 0) = 7
            knownDay(2, 0) = 1
            known({0, 1}, 2, 0) = -1
            known(1, 0, 0) = -1
            """);
        edges.holds("Term 3", "(of like ones the latest that came)", """
            3 x post()
            way(0, 1, 9000364, 5)
            way(1, 2, 1000364, 5)
            store(0, 0, 3)
            report(0, 2)                     # over 1
            send(0, 0)
            store(0, 0, 4)
            way(0, 2, 1000364, 5)
            report(0, 2)                     # straight
            store(0, 0, 1)
            report(0, 2)                     # with it, written behind it
            send(0, 2)
            go(1)
            known(2, 0, 0) = 8
            go(8)
            send(1, 1)
            go(1)
            known(2, 0, 0) = 3
            knownDay(2, 0) = 0
            """);
        edges.holds("Term 3", "of itself what is in its STORE", """
            2 x post()
            way(0, 1, 1000364, 5)
            known(0, 0, 5) = 0
            store(0, 5, 9)
            known(0, 0, 5) = 9
            report(0, 1)
            load(5, 4)
            send(0, 0)
            known(0, 0, 5) = 5
            known(1, 1, 5) = 0
            go(1)
            known(1, 1, 5) = 4
            known(1, 0, 5) = 9
            """);
    }

    private static void booksThatPart(Edges edges) {
        edges.holds("Term 5", "SPOILT on the way: a CANOE that is under way loses some of a ware", """
            2 x post()
            way(0, 1, 2000364, 5)
            store(0, {0, 1}, 5)
            load(0, 3)
            load(1, 2)
            send(0, 0)
            go(1)
            spoil(0, 0, 1) = 1
            canoe(0, 10) = 2
            canoe(0, 11) = 2
            spoil(0, 0, 2) = 1
            canoe(0, 10) = 0
            no spoil(0, 0, 1)
            go(1)
            no spoil(0, 1, 1)                # it came
            told(1, 0) = 0
            told(1, 1) = 2
            count(0, 5) = 3
            count(1, 5) = 0
            """);
        edges.holds("Term 5", "BOOKS of two POSTS: the sender's tells what a CANOE was sent with, the other one's what came", """
            2 x post()
            way(0, 1, 1000364, 500)
            store(0, 0, 50)
            load(0, 20)
            send(0, 0) = 0
            quarrel(0, 1) = -1
            go(1)
            quarrel(0, 1) = -1
            load(0, 20)
            send(0, 0) = 1
            spoil(1, 0, 20)
            quarrel(0, 1) = -1               # nothing came yet
            go(1)
            quarrel(0, 1) = 1
            canoe(1, 20) = 20
            """);
        edges.holds("Term 5", "They PART at the first CANOE (by numbers) between them (either way) that is LOST", """
            3 x post()
            way(0, 1, 2000364, 5)
            way(1, 2, 2000364, 5)
            send(1, 1) = 0
            send(1, 0) = 1
            send(0, 0) = 2
            send(1, 0) = 3
            lose(0) = 0
            quarrel(0, 1) = -1
            quarrel({0, 2}, {0, 2}) = -1
            quarrel(1, 2) = 0
            quarrel(2, 1) = 0
            lose(3) = 0
            quarrel(0, 1) = 3
            quarrel(1, 0) = 3
            lose(2)
            quarrel(0, 1) = 2
            go(2)
            quarrel(0, 1) = 2
            canoe(1, 4) = 1
            """);
        edges.holds("Term 5", "or that came with other wares than it was sent with", """
            2 x post()
            way(0, 1, 2000364, 5)
            store(1, 5, 9)
            load(5, 2)
            send(1, 0) = 0
            load(5, 2)
            send(1, 0) = 1
            send(0, 0) = 2
            spoil(1, 5, 1)
            lose(2)
            quarrel(0, 1) = 2
            go(1)
            quarrel(0, 1) = 2
            go(1)
            quarrel(0, 1) = 1
            quarrel(1, 0) = 1
            """);
    }
}
