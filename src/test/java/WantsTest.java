/** Promises 21 to 23: want, indent, cost. */
public final class WantsTest {
    private static final int[] FAR_OFF = {Integer.MIN_VALUE, -2, -1, 9999, Integer.MAX_VALUE};
    private static final Check CHECK = new Check("WantsTest");

    public static void main(String[] args) {
        wants();
        wantsThatAreNotRight();
        costs();
        costsOfAFullStore();
        costsRefused();
        indents();
        indentsRefused();
        CHECK.end();
    }

    private static void wants() {
        FurPosts x = Check.posts(1);
        CHECK.due("want(0, 0, 0)", x.want(0, 0, 0), true);
        CHECK.due("want(5, 20, 1000)", x.want(5, 20, 1000), true);
        CHECK.due("want(5, 21, 0)", x.want(5, 21, 0), false);
        CHECK.due("want(6, 20, 0)", x.want(6, 20, 0), false);
        CHECK.due("want(5, 20, 1001)", x.want(5, 20, 1001), false);
        for (int bad : FAR_OFF) {
            CHECK.due("want(" + bad + ", 20, 0)", x.want(bad, 20, 0), false);
            CHECK.due("want(5, " + bad + ", 0)", x.want(5, bad, 0), false);
            CHECK.due("want(5, 20, " + bad + ")", x.want(5, 20, bad), false);
        }
        CHECK.due("what was refused changed nothing", x.cost(0, 5, 1, 0, 0), 20000);
        CHECK.due("want before there are posts", new FurPosts().want(0, 0, 1000), true);
    }

    private static void wantsThatAreNotRight() {
        FurPosts x = Check.posts(1);
        CHECK.due("no parts", x.cost(0, 1, 1, 1, 0), -1);
        x.want(1, 3, 999);
        CHECK.due("cost, 999 parts", x.cost(0, 1, 1, 1, 0), -1);
        CHECK.due("indent, 999 parts", x.indent(0, 1, 1, 1), -1);
        x.want(1, 20, 1);
        CHECK.due("cost, 1000 parts", x.cost(0, 1, 1, 1, 0), 999 * 3 + 20);
        CHECK.due("indent, 1000 parts", x.indent(0, 1, 1, 1), 3);
        x.want(1, 0, 1);
        CHECK.due("cost, 1001 parts", x.cost(0, 1, 1, 1, 0), -1);
        CHECK.due("indent, 1001 parts", x.indent(0, 1, 1, 1), -1);
        x.want(1, 20, 0);
        CHECK.due("parts are set, not added", x.cost(0, 1, 1, 1, 0), 999 * 3);
        CHECK.due("another ware", x.cost(0, 2, 1, 1, 0), -1);
    }

    private static void costs() {
        FurPosts x = Check.posts(2);
        x.want(2, 0, 100);
        x.want(2, 4, 500);
        x.want(2, 20, 400);
        CHECK.due("cost of 0", x.cost(0, 2, 3, 2, 0), 500 * 3 * 4 + 400 * 3 * 20);
        CHECK.due("cost of 4", x.cost(0, 2, 3, 2, 4), 100 * 2 * 4 + 400 * 3 * 16);
        CHECK.due("cost of 20", x.cost(0, 2, 3, 2, 20), 100 * 2 * 20 + 500 * 2 * 16);
        x.store(0, 2, 7);
        CHECK.due("7 there, cost of 0", x.cost(0, 2, 3, 2, 0), 100 * 2 * 7 + 500 * 2 * 3 + 400 * 3 * 13);
        CHECK.due("7 there, cost of 20", x.cost(0, 2, 3, 2, 20), 100 * 2 * 27 + 500 * 2 * 23 + 400 * 2 * 7);
        CHECK.due("at the other post", x.cost(1, 2, 3, 2, 4), 100 * 2 * 4 + 400 * 3 * 16);
        CHECK.due("no lack", x.cost(1, 2, 0, 2, 4), 100 * 2 * 4);
        CHECK.due("nothing spoilt", x.cost(1, 2, 3, 0, 4), 400 * 3 * 16);
        CHECK.due("neither", x.cost(1, 2, 0, 0, 4), 0);
        CHECK.due("most of both", x.cost(1, 2, 100, 100, 4), 100 * 100 * 4 + 400 * 100 * 16);
    }

    private static void costsOfAFullStore() {
        FurPosts x = Check.posts(1);
        x.want(0, 0, 1000);
        x.store(0, 0, 999);
        CHECK.due("999 there", x.cost(0, 0, 0, 1, 0), 999000);
        x.store(0, 0, 1);
        CHECK.due("1000 there", x.cost(0, 0, 0, 1, 0), 1000000);
        x.store(0, 0, 1);
        CHECK.due("1001 there, 1000 count", x.cost(0, 0, 0, 1, 0), 1000000);
        CHECK.due("and 20 more", x.cost(0, 0, 0, 100, 20), 102000000);
        CHECK.due("indent", x.indent(0, 0, 100, 100), 0);
    }

    private static void costsRefused() {
        FurPosts x = Check.posts(1);
        x.want(0, 0, 1000);
        CHECK.due("cost(0, 0, 1, 1, 21)", x.cost(0, 0, 1, 1, 21), -1);
        CHECK.due("cost(0, 0, 101, 1, 0)", x.cost(0, 0, 101, 1, 0), -1);
        CHECK.due("cost(0, 0, 1, 101, 0)", x.cost(0, 0, 1, 101, 0), -1);
        CHECK.due("cost(0, 6, 1, 1, 0)", x.cost(0, 6, 1, 1, 0), -1);
        CHECK.due("cost(1, 0, 1, 1, 0)", x.cost(1, 0, 1, 1, 0), -1);
        for (int bad : FAR_OFF) {
            CHECK.due("cost(" + bad + ", 0, 1, 1, 0)", x.cost(bad, 0, 1, 1, 0), -1);
            CHECK.due("cost(0, " + bad + ", 1, 1, 0)", x.cost(0, bad, 1, 1, 0), -1);
            CHECK.due("cost(0, 0, " + bad + ", 1, 0)", x.cost(0, 0, bad, 1, 0), -1);
            CHECK.due("cost(0, 0, 1, " + bad + ", 0)", x.cost(0, 0, 1, bad, 0), -1);
            CHECK.due("cost(0, 0, 1, 1, " + bad + ")", x.cost(0, 0, 1, 1, bad), -1);
        }
    }

    private static void indents() {
        FurPosts x = Check.posts(1);
        x.want(3, 20, 1000);
        CHECK.due("all are wanted", x.indent(0, 3, 1, 1), 20);
        CHECK.due("lack costs nothing", x.indent(0, 3, 0, 1), 0);
        CHECK.due("nothing costs", x.indent(0, 3, 0, 0), 0);
        x.store(0, 3, 15);
        CHECK.due("15 are there", x.indent(0, 3, 1, 1), 5);
        x.store(0, 3, 5);
        CHECK.due("20 are there", x.indent(0, 3, 1, 1), 0);
        x.want(3, 20, 0);
        x.want(3, 0, 1000);
        CHECK.due("none are wanted", x.indent(0, 3, 100, 0), 0);
        x.want(4, 6, 300);
        x.want(4, 10, 300);
        x.want(4, 11, 400);
        CHECK.due("lack and spoilt alike", x.indent(0, 4, 50, 50), 10);
        CHECK.due("lack costs little", x.indent(0, 4, 1, 3), 6);
        CHECK.due("lack costs 2 of 5", x.indent(0, 4, 2, 3), 10);
        CHECK.due("lack costs much, like costs from 10 on", x.indent(0, 4, 3, 2), 10);
        CHECK.due("lack costs more", x.indent(0, 4, 4, 2), 11);
        CHECK.due("lack costs 3 of 10, like costs from 6 on", x.indent(0, 4, 3, 7), 6);
    }

    private static void indentsRefused() {
        FurPosts x = Check.posts(1);
        x.want(0, 1, 1000);
        CHECK.due("indent(0, 0, 100, 100)", x.indent(0, 0, 100, 100), 1);
        CHECK.due("indent(0, 0, 101, 1)", x.indent(0, 0, 101, 1), -1);
        CHECK.due("indent(0, 0, 1, 101)", x.indent(0, 0, 1, 101), -1);
        CHECK.due("indent(0, 6, 1, 1)", x.indent(0, 6, 1, 1), -1);
        CHECK.due("indent(1, 0, 1, 1)", x.indent(1, 0, 1, 1), -1);
        for (int bad : FAR_OFF) {
            CHECK.due("indent(" + bad + ", 0, 1, 1)", x.indent(bad, 0, 1, 1), -1);
            CHECK.due("indent(0, " + bad + ", 1, 1)", x.indent(0, bad, 1, 1), -1);
            CHECK.due("indent(0, 0, " + bad + ", 1)", x.indent(0, 0, bad, 1), -1);
            CHECK.due("indent(0, 0, 1, " + bad + ")", x.indent(0, 0, 1, bad), -1);
        }
    }
}
