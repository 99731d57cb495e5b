/** Promises 10 to 14: sell, buy, give, owes, price. */
public final class BooksTest {
    private static final int[] FAR_OFF = {Integer.MIN_VALUE, -2, -1, 9999, Integer.MAX_VALUE};
    private static final Check CHECK = new Check("BooksTest");

    public static void main(String[] args) {
        selling();
        sellingRefused();
        buying();
        buyingRefused();
        giving();
        limitsOfWhatIsOwed();
        owedBeyondTheLimits();
        prices();
        CHECK.end();
    }

    /** Post 1 has the price for ware 2, and wares 2 and 3. */
    private static FurPosts priced(int price) {
        FurPosts x = Check.row(2);
        x.order(0, 1, 2, price);
        x.send(0, 0);
        x.go(1);
        x.store(1, 2, 10000);
        x.store(1, 3, 10);
        return x;
    }

    private static void selling() {
        FurPosts x = priced(7);
        CHECK.due("sell(1, 0, 2, 3)", x.sell(1, 0, 2, 3), 21);
        CHECK.due("sell(1, 0, 3, 10)", x.sell(1, 0, 3, 10), 31);
        CHECK.due("sell(1, 11, 2, 1)", x.sell(1, 11, 2, 1), 7);
        CHECK.due("owes(1, 0)", x.owes(1, 0), 31);
        CHECK.due("owes(1, 11)", x.owes(1, 11), 7);
        CHECK.due("owes(0, 0)", x.owes(0, 0), 0);
        CHECK.due("told(1, 2)", x.told(1, 2), 9996);
        CHECK.due("told(1, 3)", x.told(1, 3), 0);
        CHECK.due("told(1, 7)", x.told(1, 7), 38);
        CHECK.due("count(2, 1)", x.count(2, 1), 4);
        CHECK.due("count(3, 1)", x.count(3, 1), 10);
        CHECK.due("sell of 1000", x.sell(1, 5, 2, 1000), 7000);
    }

    private static void sellingRefused() {
        FurPosts x = priced(7);
        CHECK.due("sell(1, 0, 3, 11)", x.sell(1, 0, 3, 11), -1);
        CHECK.due("sell(1, 0, 2, 0)", x.sell(1, 0, 2, 0), -1);
        CHECK.due("sell(1, 0, 2, 1001)", x.sell(1, 0, 2, 1001), -1);
        CHECK.due("sell(1, 0, 2, -1)", x.sell(1, 0, 2, -1), -1);
        CHECK.due("sell(1, 0, 2, MIN)", x.sell(1, 0, 2, Integer.MIN_VALUE), -1);
        CHECK.due("sell(1, 12, 2, 1)", x.sell(1, 12, 2, 1), -1);
        CHECK.due("sell(1, 0, 6, 1)", x.sell(1, 0, 6, 1), -1);
        CHECK.due("sell(2, 0, 2, 1)", x.sell(2, 0, 2, 1), -1);
        for (int bad : FAR_OFF) {
            CHECK.due("sell(" + bad + ", 0, 2, 1)", x.sell(bad, 0, 2, 1), -1);
            CHECK.due("sell(1, " + bad + ", 2, 1)", x.sell(1, bad, 2, 1), -1);
            CHECK.due("sell(1, 0, " + bad + ", 1)", x.sell(1, 0, bad, 1), -1);
        }
        CHECK.due("told(1, 2)", x.told(1, 2), 10000);
        CHECK.due("told(1, 3)", x.told(1, 3), 10);
        CHECK.due("told(1, 7)", x.told(1, 7), 0);
        CHECK.due("count(2, 1)", x.count(2, 1), 0);
    }

    private static void buying() {
        FurPosts x = priced(7);
        CHECK.due("buy(1, 4, 2, 3)", x.buy(1, 4, 2, 3), -21);
        CHECK.due("sell(1, 4, 2, 4)", x.sell(1, 4, 2, 4), 7);
        CHECK.due("buy(1, 4, 5, 9)", x.buy(1, 4, 5, 9), -2);
        CHECK.due("owes(1, 4)", x.owes(1, 4), -2);
        CHECK.due("told(1, 2)", x.told(1, 2), 9999);
        CHECK.due("told(1, 5)", x.told(1, 5), 9);
        CHECK.due("count(2, 2)", x.count(2, 2), 3);
        CHECK.due("count(5, 2)", x.count(5, 2), 9);
        CHECK.due("count(5, 0)", x.count(5, 0), 0);
        CHECK.due("buy of 1000", x.buy(1, 5, 2, 1000), -7000);
        CHECK.due("told(1, 7)", x.told(1, 7), -7002);
    }

    private static void buyingRefused() {
        FurPosts x = priced(7);
        CHECK.due("buy(1, 0, 2, 0)", x.buy(1, 0, 2, 0), -1);
        CHECK.due("buy(1, 0, 2, 1001)", x.buy(1, 0, 2, 1001), -1);
        CHECK.due("buy(1, 0, 2, -1)", x.buy(1, 0, 2, -1), -1);
        CHECK.due("buy(1, 0, 2, MIN)", x.buy(1, 0, 2, Integer.MIN_VALUE), -1);
        CHECK.due("buy(1, 12, 2, 1)", x.buy(1, 12, 2, 1), -1);
        CHECK.due("buy(1, 0, 6, 1)", x.buy(1, 0, 6, 1), -1);
        CHECK.due("buy(2, 0, 2, 1)", x.buy(2, 0, 2, 1), -1);
        for (int bad : FAR_OFF) {
            CHECK.due("buy(" + bad + ", 0, 2, 1)", x.buy(bad, 0, 2, 1), -1);
            CHECK.due("buy(1, " + bad + ", 2, 1)", x.buy(1, bad, 2, 1), -1);
            CHECK.due("buy(1, 0, " + bad + ", 1)", x.buy(1, 0, bad, 1), -1);
        }
        for (int i = 0; i < 9; i++) {
            x.store(1, 2, i < 8 ? 10000 : 9999);
        }
        CHECK.due("told(1, 2)", x.told(1, 2), 99999);
        CHECK.due("buy up to 100001", x.buy(1, 0, 2, 2), -1);
        CHECK.due("owes(1, 0)", x.owes(1, 0), 0);
        CHECK.due("buy up to 100000", x.buy(1, 0, 2, 1), -7);
        CHECK.due("told(1, 2)", x.told(1, 2), 100000);
        CHECK.due("count(2, 2)", x.count(2, 2), 1);
    }

    private static void giving() {
        FurPosts x = priced(100);
        CHECK.due("give(1, 3, 3, 4)", x.give(1, 3, 3, 4), 6);
        CHECK.due("give(1, 3, 3, 7)", x.give(1, 3, 3, 7), -1);
        CHECK.due("give(1, 3, 3, 6)", x.give(1, 3, 3, 6), 0);
        CHECK.due("give(1, 3, 2, 1000)", x.give(1, 3, 2, 1000), 9000);
        CHECK.due("give(1, 3, 2, 1001)", x.give(1, 3, 2, 1001), -1);
        CHECK.due("give(1, 3, 2, 0)", x.give(1, 3, 2, 0), -1);
        CHECK.due("give(1, 3, 2, -1)", x.give(1, 3, 2, -1), -1);
        CHECK.due("give(1, 12, 2, 1)", x.give(1, 12, 2, 1), -1);
        CHECK.due("give(1, 3, 6, 1)", x.give(1, 3, 6, 1), -1);
        CHECK.due("give(2, 3, 2, 1)", x.give(2, 3, 2, 1), -1);
        for (int bad : FAR_OFF) {
            CHECK.due("give(" + bad + ", 0, 2, 1)", x.give(bad, 0, 2, 1), -1);
            CHECK.due("give(1, " + bad + ", 2, 1)", x.give(1, bad, 2, 1), -1);
            CHECK.due("give(1, 0, " + bad + ", 1)", x.give(1, 0, bad, 1), -1);
        }
        CHECK.due("nothing is owed", x.owes(1, 3), 0);
        CHECK.due("count(2, 3)", x.count(2, 3), 1000);
        CHECK.due("count(3, 3)", x.count(3, 3), 10);
        CHECK.due("count(2, 1)", x.count(2, 1), 0);
        CHECK.due("sell up to 100000", x.sell(1, 3, 2, 1000), 100000);
        CHECK.due("give to one who owes the most", x.give(1, 3, 2, 1), 7999);
    }

    private static void limitsOfWhatIsOwed() {
        FurPosts x = priced(100);
        CHECK.due("sell up to 99999", x.buy(1, 0, 3, 1), -1);
        CHECK.due("sell up to 99999", x.sell(1, 0, 2, 1000), 99999);
        CHECK.due("sell beyond 100000", x.sell(1, 0, 2, 1), -1);
        CHECK.due("sell beyond 100000", x.sell(1, 0, 3, 2), -1);
        CHECK.due("told(1, 3)", x.told(1, 3), 11);
        CHECK.due("sell up to 100000", x.sell(1, 0, 3, 1), 100000);
        CHECK.due("sell to another one", x.sell(1, 1, 3, 1), 1);
        CHECK.due("buy up to -99999", x.buy(1, 1, 2, 1000), -99999);
        CHECK.due("buy beyond -100000", x.buy(1, 1, 2, 1), -1);
        CHECK.due("buy beyond -100000", x.buy(1, 1, 3, 2), -1);
        CHECK.due("told(1, 3)", x.told(1, 3), 9);
        CHECK.due("buy up to -100000", x.buy(1, 1, 3, 1), -100000);
        CHECK.due("owes(1, 1)", x.owes(1, 1), -100000);
        CHECK.due("count(2, 1)", x.count(2, 1), 1000);
        CHECK.due("count(2, 2)", x.count(2, 2), 1000);
    }

    private static void owedBeyondTheLimits() {
        FurPosts x = priced(100);
        x.sell(1, 0, 2, 1000);
        x.buy(1, 1, 2, 1000);
        x.debt(1, 0, 0);
        x.debt(1, 0, 1);
        x.send(1, 0);
        x.go(1);
        x.sell(1, 0, 2, 1000);
        x.buy(1, 1, 2, 1000);
        x.debt(1, 0, 0);
        x.debt(1, 0, 1);
        x.send(1, 0);
        x.go(1);
        CHECK.due("two debts came", x.owes(0, 0), 200000);
        CHECK.due("two debts came", x.owes(0, 1), -200000);
        x.store(0, 0, 10);
        CHECK.due("sell to him", x.sell(0, 0, 0, 1), -1);
        CHECK.due("buy of him", x.buy(0, 0, 0, 1), 199999);
        CHECK.due("buy of the other one", x.buy(0, 1, 0, 1), -1);
        CHECK.due("owes(0, 1)", x.owes(0, 1), -200000);
        CHECK.due("sell to the other one", x.sell(0, 1, 0, 1), -199999);
        CHECK.due("told(0, 0)", x.told(0, 0), 10);
    }

    private static void prices() {
        FurPosts x = priced(7);
        CHECK.due("price(1, 2)", x.price(1, 2), 7);
        CHECK.due("price(1, 3)", x.price(1, 3), 1);
        CHECK.due("price(0, 2), it was written there", x.price(0, 2), 1);
        CHECK.due("price(2, 2)", x.price(2, 2), -1);
        CHECK.due("price(1, 6)", x.price(1, 6), -1);
        CHECK.due("owes(1, 12)", x.owes(1, 12), 0);
        CHECK.due("owes(2, 0)", x.owes(2, 0), 0);
        for (int bad : FAR_OFF) {
            CHECK.due("price(" + bad + ", 0)", x.price(bad, 0), -1);
            CHECK.due("price(0, " + bad + ")", x.price(0, bad), -1);
            CHECK.due("owes(" + bad + ", 0)", x.owes(bad, 0), 0);
            CHECK.due("owes(0, " + bad + ")", x.owes(0, bad), 0);
        }
        x.order(0, 1, 2, 9);
        x.go(3);
        CHECK.due("an order that didn't come", x.price(1, 2), 7);
        x.send(0, 0);
        CHECK.due("one that is under way", x.price(1, 2), 7);
        x.go(1);
        CHECK.due("one that came", x.price(1, 2), 9);
    }
}
