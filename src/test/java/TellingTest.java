/** Promises 24, 26 and 27: quarrel, told, count. */
public final class TellingTest {
    private static final int[] FAR_OFF = {Integer.MIN_VALUE, -2, -1, 9999, Integer.MAX_VALUE};
    private static final Check CHECK = new Check("TellingTest");

    public static void main(String[] args) {
        quarrelOverOneLost();
        quarrelOverOneSpoilt();
        firstQuarrel();
        quarrelRefused();
        told();
        countOfWares();
        countOfAll();
        CHECK.end();
    }

    private static void quarrelOverOneLost() {
        FurPosts x = Check.row(3);
        x.send(0, 0);
        CHECK.due("under way", x.quarrel(0, 1), -1);
        x.lose(0);
        CHECK.due("lost, with nothing in it", x.quarrel(0, 1), 0);
        CHECK.due("either way", x.quarrel(1, 0), 0);
        CHECK.due("of others", x.quarrel(1, 2), -1);
        CHECK.due("of others", x.quarrel(0, 2), -1);
    }

    private static void quarrelOverOneSpoilt() {
        FurPosts x = Check.row(2);
        x.store(1, 0, 10);
        x.load(0, 4);
        x.send(1, 0);
        x.go(1);
        CHECK.due("came whole", x.quarrel(0, 1), -1);
        x.load(0, 4);
        x.send(1, 0);
        x.spoil(1, 0, 1);
        CHECK.due("spoilt, under way yet", x.quarrel(0, 1), -1);
        x.go(1);
        CHECK.due("spoilt, came", x.quarrel(0, 1), 1);
        CHECK.due("spoilt, came", x.quarrel(1, 0), 1);
    }

    private static void firstQuarrel() {
        FurPosts x = Check.row(3);
        x.store(0, 2, 10);
        x.load(2, 1);
        x.send(0, 0);
        x.send(1, 0);
        x.send(1, 1);
        x.send(2, 1);
        x.spoil(0, 2, 1);
        x.lose(3);
        CHECK.due("1 and 2", x.quarrel(1, 2), 3);
        x.lose(2);
        CHECK.due("1 and 2, an earlier one", x.quarrel(1, 2), 2);
        x.lose(1);
        CHECK.due("0 and 1", x.quarrel(0, 1), 1);
        x.go(1);
        CHECK.due("0 and 1, an earlier one came", x.quarrel(0, 1), 0);
        CHECK.due("0 and 2", x.quarrel(0, 2), -1);
    }

    private static void quarrelRefused() {
        FurPosts x = Check.row(2);
        x.send(0, 0);
        x.lose(0);
        for (int p = -1; p <= 8; p++) {
            CHECK.due("quarrel with itself", x.quarrel(p, p), -1);
            CHECK.due("quarrel with none", x.quarrel(p, 2), -1);
        }
        for (int bad : FAR_OFF) {
            CHECK.due("quarrel(0, " + bad + ")", x.quarrel(0, bad), -1);
            CHECK.due("quarrel(" + bad + ", 1)", x.quarrel(bad, 1), -1);
        }
        CHECK.due("quarrel(0, 1)", x.quarrel(0, 1), 0);
    }

    private static void told() {
        FurPosts x = Check.row(2);
        for (int ware = 0; ware < 6; ware++) {
            x.store(1, ware, 50 + ware);
        }
        x.sell(1, 0, 0, 9);
        x.sell(1, 11, 1, 8);
        x.buy(1, 5, 2, 3);
        x.order(1, 0, 0, 2);
        x.order(1, 0, 0, 2);
        int[] due = {41, 43, 55, 53, 54, 55, 2, 14, -1, -1, -1};
        for (int what = 0; what < due.length; what++) {
            CHECK.due("told(1, " + what + ")", x.told(1, what), due[what]);
            CHECK.due("told(0, " + what + ")", x.told(0, what), what < 8 ? 0 : -1);
            CHECK.due("told(2, " + what + ")", x.told(2, what), -1);
        }
        x.send(1, 0);
        CHECK.due("the bag is empty", x.told(1, 6), 0);
        x.buy(1, 1, 0, 100);
        CHECK.due("the post owes", x.told(1, 7), -86);
        for (int bad : FAR_OFF) {
            CHECK.due("told(1, " + bad + ")", x.told(1, bad), -1);
            CHECK.due("told(" + bad + ", 0)", x.told(bad, 0), -1);
        }
    }

    private static void countOfWares() {
        FurPosts x = Check.row(2);
        x.store(0, 1, 100);
        x.store(1, 1, 60);
        x.sell(0, 0, 1, 10);
        x.sell(1, 0, 1, 1);
        x.buy(0, 0, 1, 5);
        x.buy(1, 0, 1, 2);
        x.give(0, 0, 1, 7);
        x.give(1, 0, 1, 3);
        x.load(1, 20);
        x.send(0, 0);
        x.load(1, 30);
        x.send(1, 0);
        x.spoil(0, 1, 4);
        x.spoil(1, 1, 2);
        x.lose(0);
        x.go(1);
        int[] due = {160, 11, 7, 10, 16, 6, -1, -1};
        for (int what = 0; what < due.length; what++) {
            CHECK.due("count(1, " + what + ")", x.count(1, what), due[what]);
            CHECK.due("count(0, " + what + ")", x.count(0, what), what < 6 ? 0 : -1);
            CHECK.due("count(5, " + what + ")", x.count(5, what), what < 6 ? 0 : -1);
            CHECK.due("count(6, " + what + ")", x.count(6, what), -1);
            CHECK.due("count(-2, " + what + ")", x.count(-2, what), -1);
        }
        for (int bad : FAR_OFF) {
            CHECK.due("count(1, " + bad + ")", x.count(1, bad), -1);
            CHECK.due("count(-1, " + bad + ")", x.count(-1, bad), -1);
        }
        CHECK.due("count(MIN, 0)", x.count(Integer.MIN_VALUE, 0), -1);
        CHECK.due("count(MAX, 0)", x.count(Integer.MAX_VALUE, 0), -1);
    }

    private static void countOfAll() {
        FurPosts x = Check.row(4);
        x.store(0, 0, 5);
        x.sell(0, 0, 0, 5);
        x.debt(0, 3, 0);
        x.report(0, 3);
        x.send(0, 0);
        x.send(1, 0);
        x.go(9);
        x.send(1, 1);
        x.lose(2);
        x.report(0, 3);
        x.send(3, 2);
        x.send(3, 2);
        x.report(3, 0);
        x.report(3, 0);
        int[] due = {9, 4, 3, 5, 5, 1, -1, -1};
        for (int what = 0; what < due.length; what++) {
            CHECK.due("count(NONE, " + what + ")", x.count(-1, what), due[what]);
        }
    }
}
