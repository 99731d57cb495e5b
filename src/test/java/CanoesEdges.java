/** Promises 1 to 9: a new object, post, way, store, load, send, lose, spoil, go. */
final class CanoesEdges {
    private CanoesEdges() {
    }

    static void tell(Edges edges) {
        newObject(edges);
        posts(edges);
        ways(edges);
        waysRefused(edges);
        stores(edges);
        loads(edges);
        sending(edges);
        sendingTooMuch(edges);
        sendingTooLate(edges);
        losing(edges);
        spoiling(edges);
        going(edges);
    }

    private static void newObject(Edges edges) {
        edges.holds("Promise 1", "No POSTS; NOW is 0", """
            count(NONE, {0, 1, 2, 3, 4, 5}) = 0
            count({0, 1, 2, 3, 4, 5}, {0, 1, 2, 3, 4, 5}) = 0
            no told(0, {0, 6, 7})
            no canoe(0, {0, 7, 10, 20})
            no store(0, 0, 1)
            no send(0, 0)
            no way(0, 1, 1000364, 5)
            no price(0, 0)
            no known(0, 0, 0)
            no knownDay(0, 0)
            no next(0, 1)
            no quarrel(0, 1)
            go(0) = 0
            """);
    }

    private static void posts(Edges edges) {
        edges.holds("Promise 2", "A POST comes: its number", """
            post() = 0
            count(NONE, 1) = 1
            post() = 1
            count(NONE, 1) = 2
            7 x go(400) = 2800
            go(400) = 3000
            post() = 2                       # on the last day, too
            """);
        edges.holds("Promise 2", "NONE if there are 8", """
            7 x post() = 6
            post() = 7
            no post()
            no post()
            count(NONE, 1) = 8
            store(7, 0, 1) = 1
            no store(8, 0, 1)
            """);
    }

    private static void ways(Edges edges) {
        edges.holds("Promise 3", "A WAY comes: its number", """
            3 x post()
            way(0, 1, 1000364, 5) = 0
            count(NONE, 2) = 1
            way(2, 1, 1000364, 5) = 1
            way(0, 2, 1000364, 5) = 2        # joined over 1 alone
            count(NONE, 2) = 3
            send(2, 1) = 0
            canoe(0, 1) = 1
            send(1, 1) = 1
            canoe(1, 1) = 2
            """);
        edges.holds("Promise 3", "What it is is LONG * 1000000 + first * 1000 + last", """
            2 x post()
            way(0, 1, 12034056, 5) = 0
            go(33)
            no send(0, 0)
            go(1)
            send(0, 0) = 0
            canoe(0, 3) = 12
            go(12)
            canoe(0, 6) = 45
            go(10) = 56
            send(0, 0) = 1
            go(1) = 57
            canoe(1, 3) = 11
            no send(0, 0)
            go(1) = 58
            canoe(1, 3) = 11
            """);
        edges.holds("Promise 3", "NONE if that can't be", """
            3 x post()
            no way(0, 1, {MIN, -1, 0, 364, 999999}, 5)
            no way(0, 1, {1000365, 1000999, 1365365, 1999999, 40000365}, 5)
            no way(0, 1, {1001000, 1364363, 40364000}, 5)
            no way(0, 1, {41000000, 41000364, MAX}, 5)
            no way(0, 1, {-1000000, -1000364, -40364364}, 5)
            way(0, 1, 1000000, 5) = 0
            way(1, 2, 40364364, 5) = 1
            """);
    }

    private static void waysRefused(Edges edges) {
        edges.holds("Promise 3", "there is no such POST", """
            2 x post()
            no way(0, {-1, 2, 7, 8, MIN, MAX}, 1000364, 5)
            no way({-1, 2, 7, 8, MIN, MAX}, 0, 1000364, 5)
            no way(-1, 2, 1000364, 5)
            way(0, 1, 1000364, 5) = 0
            post() = 2
            way(2, 0, 1000364, 5) = 1
            """);
        edges.holds("Promise 3", "both are one", """
            2 x post()
            no way(0, 0, 1000364, 5)
            no way(1, 1, 1000364, 5)
            way(1, 0, 1000364, 5) = 0
            """);
        edges.holds("Promise 3", "they are joined", """
            3 x post()
            way(0, 1, 3000364, 5) = 0
            no way(0, 1, 3000364, 5)
            no way(1, 0, 3000364, 5)
            no way(0, 1, 1010020, 500)
            way(1, 2, 1000364, 5) = 1
            way(0, 2, 1000364, 5) = 2
            store(0, 0, 6)
            load(0, 6)
            no send(0, 0)                    # it bears 5, as it did
            load(0, 5)
            send(0, 0) = 0
            canoe(0, 3) = 3
            """);
        edges.holds("Promise 3", "it can't BEAR so much", """
            3 x post()
            no way(0, 1, 1000364, {MIN, -1, 0, 501, MAX})
            way(0, 1, 1000364, 1) = 0
            way(1, 2, 1000364, 500) = 1
            """);
        edges.holds("Promise 3", "or 12 came", """
            6 x post()
            way(0, {1, 2, 3, 4, 5}, 1000364, 5)
            way(1, {2, 3, 4, 5}, 1000364, 5)
            way(2, {3, 4}, 1000364, 5)
            way(2, 5, 1000364, 5) = 11
            no way(3, 4, 1000364, 5)
            no way(3, 5, 1000364, 5)
            next(3, 4) = 0
            count(NONE, 2) = 12
            """);
    }

    private static void stores(Edges edges) {
        edges.holds("Promise 4", "Wares come to a STORE from over sea: how many are there", """
            2 x post()
            store(0, 0, 3) = 3
            store(0, 0, 4) = 7
            store(0, 5, 4) = 4
            store(1, 0, 1) = 1
            give(0, 0, 0, 7) = 0
            store(0, 0, 2) = 2
            told(0, 0) = 2
            count(0, 0) = 10
            """);
        edges.holds("Promise 4", "NONE if there is no such POST, ware", """
            2 x post()
            store(1, 5, 1) = 1
            no store({-1, 2, 8, MIN, MAX}, 5, 1)
            no store(1, {-1, 6, MIN, MAX}, 1)
            store({0, 1}, 0, 1) = 1
            """);
        edges.holds("Promise 4", "or n isn't 1 .. 10000", """
            post()
            no store(0, 0, {MIN, -1, 0, 10001, MAX})
            store(0, 0, 1) = 1
            store(0, 0, 10000) = 10001
            no store(0, 0, {MIN, -1, 0, 10001, MAX})
            count(0, 0) = 10001
            """);
        edges.holds("Promise 4", "(100000 there at most)", """
            2 x post()
            9 x store(0, 0, 10000) = 90000
            store(0, 0, 1) = 90001
            no store(0, 0, 10000)
            store(0, 0, 9999) = 100000
            no store(0, 0, 1)
            store(0, 1, 1) = 1               # of each ware
            store(1, 0, 1) = 1               # at each post
            give(0, 0, 0, 1) = 99999
            no store(0, 0, 2)
            store(0, 0, 1) = 100000
            count(0, 0) = 100002
            """);
    }

    private static void loads(Edges edges) {
        edges.holds("Promise 5", "The next CANOE has so many of a ware (0 .. 500; 0 at first", """
            2 x post()
            way(0, 1, 1000364, 500)
            store(0, {0, 1, 2, 3, 4, 5}, 500)
            send(0, 0) = 0
            canoe(0, {20, 21, 22, 23, 24, 25}) = 0
            load(0, 500) = 1
            send(0, 0) = 1
            canoe(1, 20) = 500
            load(5, 9) = 1
            load(5, 3) = 1                   # so many, not so many more
            load(4, 9) = 1
            load(4, 0) = 1
            send(0, 0) = 2
            canoe(2, 25) = 3
            canoe(2, {20, 21, 22, 23, 24}) = 0
            load(1, 500) = 1                 # before it is known from where, and what bears it
            load(2, 500) = 1
            no send(0, 0)
            """);
        edges.holds("Promise 5", "and behind each that was sent): true", """
            2 x post()
            way(0, 1, 1000364, 500)
            store(0, {0, 1, 2, 3, 4, 5}, 10)
            load({0, 1, 2, 3, 4, 5}, 4) = 1
            send(0, 0) = 0
            canoe(0, {20, 21, 22, 23, 24, 25}) = 4
            send(0, 0) = 1
            canoe(1, {20, 21, 22, 23, 24, 25}) = 0
            load(3, 7) = 1
            no send(0, 0)
            load(2, 1) = 1
            no send(0, 0)                    # a refused one leaves the load
            store(0, 3, 1) = 7
            send(0, 0) = 2
            canoe(2, 23) = 7
            canoe(2, 22) = 1
            """);
        edges.holds("Promise 5", "false for others", """
            2 x post()
            way(0, 1, 1000364, 500)
            store(0, 5, 500)
            load(5, 500) = 1
            no load(5, {MIN, -1, 501, MAX})
            no load({MIN, -1, 6, MAX}, 0)
            send(0, 0) = 0
            canoe(0, 25) = 500
            """);
    }

    private static void sending(Edges edges) {
        edges.holds("Promise 6", "A CANOE is sent over a WAY with what was LOADED and the LETTERS: its number", """
            2 x post()
            way(0, 1, 1000364, 10)
            store(0, 2, 10)
            load(2, 10)
            order(0, 1, 0, 5)
            send(0, 0) = 0
            canoe(0, 22) = 10
            canoe(0, 7) = 1
            told(0, 2) = 0
            told(0, 6) = 0
            send(1, 0) = 1
            canoe(1, 7) = 0
            count(NONE, 3) = 2
            """);
        edges.holds("Promise 6", "NONE if there is no such POST or WAY there", """
            4 x post()
            way(0, 1, 1000364, 10)
            way(1, 2, 1000364, 10)
            order(0, 1, 0, 5)
            no send({-1, 4, 8, MIN, MAX}, 0)
            no send(1, {-1, 2, 12, MIN, MAX})
            no send({2, 3}, 0)
            no send({0, 3}, 1)
            send(0, 0) = 0
            send(1, 0) = 1
            send(1, 1) = 2
            send(2, 1) = 3
            """);
        edges.holds("Promise 6", "it isn't OPEN on this DAY", """
            2 x post()
            way(0, 1, 1010012, 10)
            order(0, 1, 0, 5)
            store(0, 0, 1)
            load(0, 1)
            no send(0, 0)
            go(9) = 9
            no send(0, 0)
            go(1) = 10
            send(0, 0) = 0
            canoe(0, 7) = 1
            go(2) = 12
            send(0, 0) = 1
            go(1) = 13
            no send(0, 0)
            go(361) = 374
            no send(0, 0)
            go(1) = 375
            send(0, 0) = 2
            """);
    }

    private static void sendingTooMuch(Edges edges) {
        edges.holds("Promise 6", "doesn't BEAR that", """
            2 x post()
            way(0, 1, 1000364, 10)
            store(0, {0, 1, 2, 3, 4, 5}, 100)
            load(0, 11)
            no send(0, 0)
            load({0, 1, 2, 3, 4}, 2)
            load(5, 1)
            no send(0, 0)                    # 11 in all
            load(5, 0)
            send(0, 0) = 0
            canoe(0, {20, 21, 22, 23, 24}) = 2
            load({0, 5}, 500)
            no send(0, 0)
            """);
        edges.holds("Promise 6", "there isn't so much", """
            2 x post()
            way(0, 1, 1000364, 500)
            store(0, {0, 5}, 10)
            store(1, {0, 5}, 100)
            load(0, 11)
            no send(0, 0)
            load(0, 10)
            load(5, 11)
            no send(0, 0)
            load(5, 10)
            send(0, 0) = 0
            told(0, {0, 5}) = 0
            load(0, 1)
            no send(0, 0)
            load(0, 0)
            load(5, 1)
            no send(0, 0)
            send(1, 0) = 1
            """);
        edges.holds("Promise 6", "120 came", """
            2 x post()
            way(0, 1, 1000364, 500)
            119 x send(0, 0) = 118
            store(0, 0, 2)
            load(0, 1)
            order(0, 1, 0, 5)
            send(0, 0) = 119
            order(0, 1, 0, 6)
            load(0, 1)
            no send(0, 0)
            go(2)
            no send(0, 0)
            told(0, 0) = 1
            told(0, 6) = 1
            """);
    }

    private static void sendingTooLate(Edges edges) {
        edges.holds("Promise 6", "or NOW is 3000", """
            2 x post()
            way(0, 1, 1000364, 500)
            store(0, 0, 2)
            load(0, 1)
            order(0, 1, 0, 5)
            7 x go(400) = 2800
            go(199) = 2999
            send(0, 0) = 0
            order(0, 1, 0, 6)
            load(0, 1)
            go(1) = 3000
            no send(0, 0)
            told(0, 0) = 1
            told(0, 6) = 1
            told(1, 0) = 1
            """);
    }

    private static void losing(Edges edges) {
        edges.holds("Promise 7", "A CANOE is LOST: how many wares that are", """
            2 x post()
            way(0, 1, 2000364, 500)
            store(0, {0, 1, 2, 3, 4, 5}, 100)
            load({0, 1, 2, 3, 4}, 80)
            load(5, 100)
            send(0, 0) = 0
            send(0, 0) = 1
            load(3, 20)
            send(0, 0) = 2
            spoil(2, 3, 5)
            lose(0) = 500
            lose(1) = 0
            lose(2) = 15
            canoe({0, 1, 2}, 4) = 2
            count({0, 1, 2, 4}, 4) = 80
            count(3, 4) = 95
            count(5, 4) = 100
            """);
        edges.holds("Promise 7", "NONE if there is none such", """
            2 x post()
            way(0, 1, 2000364, 500)
            no lose(0)
            send(0, 0) = 0
            no lose({-1, 1, 119, 120, MIN, MAX})
            lose(0) = 0
            """);
        edges.holds("Promise 7", "or it isn't under way", """
            2 x post()
            way(0, 1, 2000364, 500)
            store(0, 0, 20)
            load(0, 10)
            send(0, 0) = 0
            go(2)
            no lose(0)                       # it came
            load(0, 10)
            send(0, 0) = 1
            go(1)
            lose(1) = 10
            no lose(1)                       # it is lost
            count(0, 4) = 10
            told(1, 0) = 10
            """);
    }

    private static void spoiling(Edges edges) {
        edges.holds("Promise 8", "Some of a ware is SPOILT in a CANOE: true", """
            2 x post()
            way(0, 1, 2000364, 500)
            store(0, 5, 10)
            load(5, 4)
            send(0, 0) = 0
            spoil(0, 5, 1) = 1
            canoe(0, 15) = 3
            canoe(0, 25) = 4
            spoil(0, 5, 3) = 1
            canoe(0, 15) = 0
            count(5, 5) = 4
            told(0, 5) = 6
            """);
        edges.holds("Promise 8", "false if there is no such CANOE", """
            2 x post()
            way(0, 1, 2000364, 500)
            store(0, 0, 10)
            no spoil(0, 0, 1)
            load(0, 4)
            send(0, 0) = 0
            no spoil({-1, 1, 119, 120, MIN, MAX}, 0, 1)
            """);
        edges.holds("Promise 8", "it isn't under way", """
            2 x post()
            way(0, 1, 2000364, 500)
            store(0, 0, 10)
            load(0, 4)
            send(0, 0) = 0
            load(0, 4)
            send(0, 0) = 1
            go(1)
            spoil(0, 0, 1) = 1
            lose(1) = 4
            no spoil(1, 0, 1)
            go(1)
            no spoil(0, 0, 1)
            told(1, 0) = 3
            count(0, 5) = 1
            """);
        edges.holds("Promise 8", "has not so many", """
            2 x post()
            way(0, 1, 2000364, 500)
            store(0, {0, 1}, 10)
            load(0, 4)
            send(0, 0) = 0
            no spoil(0, 0, {5, MAX})
            no spoil(0, 1, 1)
            no spoil(0, {-1, 6, MIN, MAX}, 1)
            spoil(0, 0, 3) = 1
            no spoil(0, 0, 2)
            spoil(0, 0, 1) = 1
            no spoil(0, 0, 1)
            """);
        edges.holds("Promise 8", "or n is below 1", """
            2 x post()
            way(0, 1, 2000364, 500)
            store(0, 0, 10)
            load(0, 4)
            send(0, 0) = 0
            no spoil(0, 0, {0, -1, MIN})
            no spoil(0, 1, 0)
            spoil(0, 0, 1) = 1
            """);
    }

    private static void going(Edges edges) {
        edges.holds("Promise 9", "n DAYS pass (0 .. 400", """
            2 x post()
            way(0, 1, 40000364, 500)
            send(0, 0)
            go(0) = 0
            canoe(0, 3) = 40
            go(1) = 1
            canoe(0, 3) = 39
            go(400) = 401
            canoe(0, 6) = 39
            """);
        edges.holds("Promise 9", "up to 3000): NOW", """
            2 x post()
            way(0, 1, 40000364, 500)
            7 x go(400) = 2800
            go(180) = 2980
            send(0, 0)
            go(19) = 2999
            go(400) = 3000
            canoe(0, 3) = 20                 # none passes behind the last
            go(1) = 3000
            go(0) = 3000
            canoe(0, 3) = 20
            no go(401)
            """);
        edges.holds("Promise 9", "NONE for another n", """
            2 x post()
            way(0, 1, 40000364, 500)
            send(0, 0)
            go(10)
            no go({MIN, -1, 401, MAX})
            canoe(0, 3) = 30
            go(400) = 410
            """);
    }
}
