/** Promises 15 to 19: order, debt, report, known, knownDay; and how letters travel. */
public final class LettersTest {
    private static final int[] FAR_OFF = {Integer.MIN_VALUE, -2, -1, 9999, Integer.MAX_VALUE};
    private static final Check CHECK = new Check("LettersTest");

    public static void main(String[] args) {
        orders();
        debts();
        debtsLost();
        reports();
        reportsOfLikeDays();
        olderReports();
        threeHundredLetters();
        lettersOverPosts();
        lettersWithoutAWay();
        lettersInTheOrderOfWriting();
        canoesOfADayByNumbers();
        lettersLost();
        lettersThatAreNotLost();
        CHECK.end();
    }

    private static void orders() {
        FurPosts x = Check.row(2);
        CHECK.due("order of 1", x.order(0, 1, 0, 1), 0);
        CHECK.due("order of 100", x.order(0, 1, 5, 100), 1);
        CHECK.due("order, there", x.order(1, 0, 5, 30), 2);
        CHECK.due("order of 0", x.order(0, 1, 0, 0), -1);
        CHECK.due("order of 101", x.order(0, 1, 0, 101), -1);
        CHECK.due("order of ware 6", x.order(0, 1, 6, 5), -1);
        CHECK.due("order to itself", x.order(1, 1, 0, 5), -1);
        CHECK.due("order to none", x.order(0, 2, 0, 5), -1);
        CHECK.due("order from none", x.order(2, 0, 0, 5), -1);
        for (int bad : FAR_OFF) {
            CHECK.due("order(" + bad + ", 1, 0, 5)", x.order(bad, 1, 0, 5), -1);
            CHECK.due("order(0, " + bad + ", 0, 5)", x.order(0, bad, 0, 5), -1);
            CHECK.due("order(0, 1, " + bad + ", 5)", x.order(0, 1, bad, 5), -1);
            CHECK.due("order(0, 1, 0, " + bad + ")", x.order(0, 1, 0, bad), -1);
        }
        CHECK.due("count(NONE, 4)", x.count(-1, 4), 3);
        CHECK.due("told(0, 6)", x.told(0, 6), 2);
        CHECK.due("told(1, 6)", x.told(1, 6), 1);
        x.send(0, 0);
        CHECK.due("canoe(0, 7)", x.canoe(0, 7), 2);
        x.go(1);
        CHECK.due("price(1, 5)", x.price(1, 5), 100);
        CHECK.due("price(0, 5)", x.price(0, 5), 1);
        CHECK.due("told(1, 6)", x.told(1, 6), 1);
        CHECK.due("count(NONE, 4) behind it", x.count(-1, 4), 3);
    }

    private static void debts() {
        FurPosts x = Check.row(2);
        x.store(0, 0, 100);
        x.sell(0, 2, 0, 40);
        CHECK.due("debt of nothing", x.debt(0, 1, 3), -1);
        CHECK.due("debt to itself", x.debt(0, 0, 2), -1);
        CHECK.due("debt to none", x.debt(0, 2, 2), -1);
        CHECK.due("debt from none", x.debt(2, 0, 2), -1);
        CHECK.due("debt of hunter 12", x.debt(0, 1, 12), -1);
        for (int bad : FAR_OFF) {
            CHECK.due("debt(" + bad + ", 1, 2)", x.debt(bad, 1, 2), -1);
            CHECK.due("debt(0, " + bad + ", 2)", x.debt(0, bad, 2), -1);
            CHECK.due("debt(0, 1, " + bad + ")", x.debt(0, 1, bad), -1);
        }
        CHECK.due("no letter was written", x.count(-1, 4), 0);
        CHECK.due("owes(0, 2)", x.owes(0, 2), 40);
        CHECK.due("debt(0, 1, 2)", x.debt(0, 1, 2), 40);
        CHECK.due("owes(0, 2)", x.owes(0, 2), 0);
        CHECK.due("count(NONE, 4)", x.count(-1, 4), 1);
        CHECK.due("debt(0, 1, 2) again", x.debt(0, 1, 2), -1);
        x.buy(0, 2, 0, 5);
        CHECK.due("debt of what the post owes", x.debt(0, 1, 2), -5);
        x.buy(0, 2, 0, 1);
        CHECK.due("debt of -1", x.debt(0, 1, 2), -1);
        CHECK.due("count(NONE, 4)", x.count(-1, 4), 3);
        CHECK.due("owes(0, 2)", x.owes(0, 2), 0);
        x.store(1, 0, 3);
        x.sell(1, 2, 0, 3);
        x.send(0, 0);
        CHECK.due("owes(1, 2), under way", x.owes(1, 2), 3);
        x.go(1);
        CHECK.due("owes(1, 2)", x.owes(1, 2), 37);
        CHECK.due("owes(0, 2)", x.owes(0, 2), 0);
        CHECK.due("told(1, 7)", x.told(1, 7), 37);
    }

    private static void debtsLost() {
        FurPosts x = Check.row(2);
        x.store(0, 0, 100);
        x.sell(0, 2, 0, 40);
        x.sell(0, 3, 0, 30);
        x.debt(0, 1, 2);
        x.debt(0, 1, 3);
        x.order(0, 1, 0, 4);
        x.report(0, 1);
        x.send(0, 0);
        CHECK.due("count(NONE, 5), under way", x.count(-1, 5), 0);
        x.lose(0);
        CHECK.due("two debts are lost", x.count(-1, 5), 2);
        CHECK.due("owes(0, 2)", x.owes(0, 2), 0);
        x.go(5);
        CHECK.due("owes(1, 2)", x.owes(1, 2), 0);
        x.buy(0, 2, 0, 1);
        x.debt(0, 1, 2);
        x.send(0, 0);
        x.go(1);
        CHECK.due("a debt that came isn't lost", x.count(-1, 5), 2);
        CHECK.due("owes(1, 2)", x.owes(1, 2), -1);
        CHECK.due("lose, it came", x.lose(1), -1);
        CHECK.due("count(NONE, 5)", x.count(-1, 5), 2);
        CHECK.due("count(NONE, 4)", x.count(-1, 4), 5);
    }

    private static void reports() {
        FurPosts x = Check.row(3);
        for (int ware = 0; ware < 6; ware++) {
            x.store(0, ware, 10 + ware);
        }
        x.go(4);
        CHECK.due("report(0, 1)", x.report(0, 1), 0);
        CHECK.due("report to itself", x.report(0, 0), -1);
        CHECK.due("report to none", x.report(0, 3), -1);
        CHECK.due("report from none", x.report(3, 0), -1);
        for (int bad : FAR_OFF) {
            CHECK.due("report(" + bad + ", 1)", x.report(bad, 1), -1);
            CHECK.due("report(0, " + bad + ")", x.report(0, bad), -1);
        }
        CHECK.due("known(1, 0, 0)", x.known(1, 0, 0), -1);
        CHECK.due("knownDay(1, 0)", x.knownDay(1, 0), -1);
        x.give(0, 0, 0, 10);
        x.go(1);
        x.send(0, 0);
        x.go(1);
        for (int ware = 0; ware < 6; ware++) {
            CHECK.due("known(1, 0, " + ware + ")", x.known(1, 0, ware), 10 + ware);
            CHECK.due("known(0, 0, " + ware + ")", x.known(0, 0, ware), ware == 0 ? 0 : 10 + ware);
            CHECK.due("known(0, 1, " + ware + ")", x.known(0, 1, ware), -1);
            CHECK.due("known(2, 0, " + ware + ")", x.known(2, 0, ware), -1);
        }
        CHECK.due("knownDay(1, 0)", x.knownDay(1, 0), 4);
        CHECK.due("knownDay(0, 0)", x.knownDay(0, 0), 6);
        CHECK.due("knownDay(0, 1)", x.knownDay(0, 1), -1);
        CHECK.due("known(1, 0, 6)", x.known(1, 0, 6), -1);
        CHECK.due("known(1, 1, 6)", x.known(1, 1, 6), -1);
        CHECK.due("known(3, 3, 0)", x.known(3, 3, 0), -1);
        CHECK.due("known(1, 3, 0)", x.known(1, 3, 0), -1);
        CHECK.due("known(1, 8, 0)", x.known(1, 8, 0), -1);
        CHECK.due("known(8, 1, 0)", x.known(8, 1, 0), -1);
        CHECK.due("knownDay(1, 8)", x.knownDay(1, 8), -1);
        CHECK.due("knownDay(8, 1)", x.knownDay(8, 1), -1);
        CHECK.due("knownDay(3, 3)", x.knownDay(3, 3), -1);
        for (int bad : FAR_OFF) {
            CHECK.due("known(" + bad + ", 0, 0)", x.known(bad, 0, 0), -1);
            CHECK.due("known(1, " + bad + ", 0)", x.known(1, bad, 0), -1);
            CHECK.due("known(1, 0, " + bad + ")", x.known(1, 0, bad), -1);
            CHECK.due("known of none itself", x.known(bad, bad, 0), -1);
            CHECK.due("knownDay(" + bad + ", 0)", x.knownDay(bad, 0), -1);
            CHECK.due("knownDay(1, " + bad + ")", x.knownDay(1, bad), -1);
            CHECK.due("knownDay of none itself", x.knownDay(bad, bad), -1);
        }
    }

    private static void reportsOfLikeDays() {
        FurPosts x = Check.row(2);
        x.report(0, 1);
        x.store(0, 0, 5);
        x.report(0, 1);
        x.send(0, 0);
        x.go(1);
        CHECK.due("of like ones the latest that came", x.known(1, 0, 0), 5);
        CHECK.due("knownDay(1, 0)", x.knownDay(1, 0), 0);
        // The one that was written first comes last: it goes the ring's long way.
        FurPosts y = Check.posts(3);
        y.way(0, 1, 9000364, 5);
        y.way(1, 2, 1000364, 5);
        y.report(0, 2);
        y.send(0, 0);
        y.store(0, 0, 5);
        y.report(0, 2);
        y.way(0, 2, 1000364, 5);
        y.send(0, 1);
        y.send(0, 2);
        y.go(1);
        CHECK.due("the second came first", y.known(2, 0, 0), 5);
        y.go(8);
        y.send(1, 1);
        y.go(1);
        CHECK.due("the first came last", y.known(2, 0, 0), 0);
        CHECK.due("both have the day", y.knownDay(2, 0), 0);
    }

    private static void olderReports() {
        FurPosts x = Check.posts(3);
        x.way(0, 1, 9000364, 5);
        x.way(1, 2, 1000364, 5);
        x.report(0, 2);
        x.send(0, 0);
        x.go(1);
        x.store(0, 0, 5);
        x.way(0, 2, 1000364, 5);
        x.report(0, 2);
        x.send(0, 2);
        x.go(8);
        x.send(1, 1);
        x.go(1);
        CHECK.due("the old one came", x.canoe(2, 7), 1);
        CHECK.due("the old one came", x.canoe(2, 4), 1);
        CHECK.due("the new one holds", x.known(2, 0, 0), 5);
        CHECK.due("the new one holds", x.knownDay(2, 0), 1);
    }

    private static void threeHundredLetters() {
        FurPosts x = Check.row(2);
        x.store(0, 0, 10);
        x.sell(0, 0, 0, 1);
        x.sell(0, 1, 0, 1);
        x.debt(0, 1, 0);
        x.report(0, 1);
        for (int i = 2; i < 300; i++) {
            CHECK.due("order", x.order(0, 1, 0, i % 100 + 1), i);
        }
        CHECK.due("the 301st order", x.order(0, 1, 0, 5), -1);
        CHECK.due("the 301st report", x.report(0, 1), -1);
        CHECK.due("the 301st debt", x.debt(0, 1, 1), -1);
        CHECK.due("owes(0, 1)", x.owes(0, 1), 1);
        CHECK.due("count(NONE, 4)", x.count(-1, 4), 300);
        CHECK.due("told(0, 6)", x.told(0, 6), 300);
        CHECK.due("send", x.send(0, 0), 0);
        CHECK.due("canoe(0, 7)", x.canoe(0, 7), 300);
        x.go(1);
        CHECK.due("the last order holds", x.price(1, 0), 100);
        CHECK.due("owes(1, 0)", x.owes(1, 0), 1);
        CHECK.due("an order, though all came", x.order(0, 1, 0, 5), -1);
    }

    private static void lettersOverPosts() {
        FurPosts x = Check.row(4);
        x.store(0, 0, 9);
        x.sell(0, 7, 0, 2);
        x.order(0, 3, 1, 33);
        x.debt(0, 3, 7);
        x.report(0, 3);
        x.order(0, 1, 1, 11);
        x.order(1, 3, 2, 22);
        x.order(1, 0, 2, 44);
        x.send(0, 0);
        CHECK.due("canoe(0, 7)", x.canoe(0, 7), 4);
        x.go(1);
        CHECK.due("told(1, 6)", x.told(1, 6), 5);
        CHECK.due("price(1, 1), for another one is not read", x.price(1, 1), 11);
        CHECK.due("known(1, 0, 0), for another one is not read", x.known(1, 0, 0), -1);
        CHECK.due("owes(1, 7)", x.owes(1, 7), 0);
        x.send(1, 1);
        CHECK.due("canoe(1, 7), not the one for 0", x.canoe(1, 7), 4);
        CHECK.due("told(1, 6)", x.told(1, 6), 1);
        x.go(1);
        CHECK.due("told(2, 6)", x.told(2, 6), 4);
        x.send(2, 1);
        CHECK.due("none of them goes back", x.canoe(2, 7), 0);
        x.send(2, 2);
        x.go(1);
        CHECK.due("told(2, 6)", x.told(2, 6), 0);
        CHECK.due("told(3, 6)", x.told(3, 6), 0);
        CHECK.due("price(3, 1)", x.price(3, 1), 33);
        CHECK.due("price(3, 2)", x.price(3, 2), 22);
        CHECK.due("owes(3, 7)", x.owes(3, 7), 2);
        CHECK.due("known(3, 0, 0)", x.known(3, 0, 0), 7);
        CHECK.due("knownDay(3, 0)", x.knownDay(3, 0), 0);
        CHECK.due("known(3, 1, 0)", x.known(3, 1, 0), -1);
        x.send(1, 0);
        x.go(1);
        CHECK.due("price(0, 2)", x.price(0, 2), 44);
    }

    private static void lettersWithoutAWay() {
        FurPosts x = Check.row(2);
        x.post();
        CHECK.due("order without a way", x.order(0, 2, 0, 5), 0);
        x.send(0, 0);
        CHECK.due("no canoe takes it", x.canoe(0, 7), 0);
        CHECK.due("told(0, 6)", x.told(0, 6), 1);
        x.way(1, 2, 1000364, 5);
        x.send(0, 0);
        CHECK.due("with a way one takes it", x.canoe(1, 7), 1);
        x.go(1);
        x.send(1, 1);
        x.go(1);
        CHECK.due("price(2, 0)", x.price(2, 0), 5);
    }

    private static void lettersInTheOrderOfWriting() {
        FurPosts x = Check.row(3);
        x.order(0, 2, 0, 10);
        x.order(1, 2, 0, 20);
        x.send(0, 0);
        x.go(1);
        x.send(1, 1);
        CHECK.due("canoe(1, 7)", x.canoe(1, 7), 2);
        x.go(1);
        CHECK.due("the one that was written last holds", x.price(2, 0), 20);
    }

    private static void canoesOfADayByNumbers() {
        FurPosts x = Check.posts(3);
        x.way(0, 2, 2000364, 5);
        x.way(1, 2, 1000364, 5);
        x.order(0, 2, 0, 10);
        x.order(1, 2, 0, 20);
        x.order(1, 2, 1, 20);
        x.order(0, 2, 1, 10);
        x.send(0, 0);
        x.go(1);
        x.send(1, 1);
        x.go(1);
        CHECK.due("both came on a day", x.canoe(0, 6), x.canoe(1, 6));
        CHECK.due("the later canoe's order holds", x.price(2, 0), 20);
        CHECK.due("the later canoe's order holds", x.price(2, 1), 20);
    }

    private static void lettersLost() {
        FurPosts x = Check.row(3);
        x.order(0, 2, 0, 10);
        x.report(0, 1);
        x.send(0, 0);
        x.lose(0);
        x.go(3);
        CHECK.due("told(0, 6)", x.told(0, 6), 0);
        CHECK.due("told(1, 6)", x.told(1, 6), 0);
        CHECK.due("known(1, 0, 0)", x.known(1, 0, 0), -1);
        CHECK.due("canoe(0, 7)", x.canoe(0, 7), 2);
        CHECK.due("no debt was in it", x.count(-1, 5), 0);
        x.send(0, 0);
        CHECK.due("canoe(1, 7)", x.canoe(1, 7), 0);
    }

    private static void lettersThatAreNotLost() {
        FurPosts x = Check.row(2);
        x.store(0, 0, 9);
        x.sell(0, 0, 0, 1);
        x.sell(0, 1, 0, 2);
        x.debt(0, 1, 0);
        x.send(0, 0);
        x.send(0, 0);
        x.debt(0, 1, 1);
        x.lose(1);
        CHECK.due("the lost canoe had no debt", x.count(-1, 5), 0);
        CHECK.due("what lies in the bag is there", x.told(0, 6), 1);
        x.send(0, 0);
        x.go(1);
        CHECK.due("the other canoe's debt came", x.owes(1, 0), 1);
        CHECK.due("the bag's debt came", x.owes(1, 1), 2);
    }
}
