/** Promises 4 to 9 and 25: store, load, send, lose, spoil, go, canoe. */
public final class CanoesTest {
    private static final int[] FAR_OFF = {Integer.MIN_VALUE, -2, -1, 9999, Integer.MAX_VALUE};
    private static final Check CHECK = new Check("CanoesTest");

    public static void main(String[] args) {
        stores();
        loads();
        sending();
        sendingRefused();
        openDays();
        lastDay();
        hundredAndTwentyCanoes();
        losing();
        losingEachWare();
        spoiling();
        going();
        frozenWays();
        storesAboveTheMost();
        canoesTold();
        CHECK.end();
    }

    private static void stores() {
        FurPosts x = Check.posts(2);
        CHECK.due("store(0, 5, 1)", x.store(0, 5, 1), 1);
        CHECK.due("store(0, 5, 10000)", x.store(0, 5, 10000), 10001);
        CHECK.due("store(0, 5, 0)", x.store(0, 5, 0), -1);
        CHECK.due("store(0, 5, 10001)", x.store(0, 5, 10001), -1);
        for (int i = 2; i <= 9; i++) {
            CHECK.due("store(0, 5, 10000)", x.store(0, 5, 10000), i * 10000 + 1);
        }
        CHECK.due("store up to 100001", x.store(0, 5, 10000), -1);
        CHECK.due("store up to 100000", x.store(0, 5, 9999), 100000);
        CHECK.due("store, 1 more", x.store(0, 5, 1), -1);
        CHECK.due("told(0, 5)", x.told(0, 5), 100000);
        CHECK.due("told(1, 5)", x.told(1, 5), 0);
        CHECK.due("count(5, 0)", x.count(5, 0), 100000);
        CHECK.due("store(1, 0, 4)", x.store(1, 0, 4), 4);
        for (int bad : FAR_OFF) {
            CHECK.due("store(" + bad + ", 0, 1)", x.store(bad, 0, 1), -1);
            CHECK.due("store(1, " + bad + ", 1)", x.store(1, bad, 1), -1);
        }
        CHECK.due("store(2, 0, 1)", x.store(2, 0, 1), -1);
        CHECK.due("store(1, 6, 1)", x.store(1, 6, 1), -1);
        CHECK.due("store(1, 0, -1)", x.store(1, 0, -1), -1);
        CHECK.due("store(1, 0, MAX)", x.store(1, 0, Integer.MAX_VALUE), -1);
        CHECK.due("store(1, 0, MIN)", x.store(1, 0, Integer.MIN_VALUE), -1);
        CHECK.due("told(1, 0)", x.told(1, 0), 4);
        CHECK.due("count(0, 0)", x.count(0, 0), 4);
    }

    private static void loads() {
        FurPosts x = Check.row(2);
        CHECK.due("load(0, 0)", x.load(0, 0), true);
        CHECK.due("load(5, 500)", x.load(5, 500), true);
        CHECK.due("load(5, 501)", x.load(5, 501), false);
        CHECK.due("load(5, -1)", x.load(5, -1), false);
        CHECK.due("load(5, MIN)", x.load(5, Integer.MIN_VALUE), false);
        CHECK.due("load(5, MAX)", x.load(5, Integer.MAX_VALUE), false);
        CHECK.due("load(6, 1)", x.load(6, 1), false);
        CHECK.due("load(-1, 1)", x.load(-1, 1), false);
        CHECK.due("load(MAX, 1)", x.load(Integer.MAX_VALUE, 1), false);
        x.store(0, 5, 1000);
        CHECK.due("send with what was loaded first", x.send(0, 0), 0);
        CHECK.due("canoe(0, 25)", x.canoe(0, 25), 500);
        CHECK.due("send with nothing", x.send(0, 0), 1);
        CHECK.due("canoe(1, 25)", x.canoe(1, 25), 0);
        x.load(5, 7);
        x.load(5, 3);
        x.send(0, 0);
        CHECK.due("the last load holds", x.canoe(2, 25), 3);
        x.load(5, 7);
        x.load(5, 0);
        x.send(0, 0);
        CHECK.due("a load of 0 holds", x.canoe(3, 25), 0);
        CHECK.due("told(0, 5)", x.told(0, 5), 497);
    }

    private static void sending() {
        FurPosts x = Check.posts(3);
        x.way(1, 0, 4000364, 10);
        x.way(1, 2, 6000364, 10);
        for (int ware = 0; ware < 6; ware++) {
            x.store(1, ware, ware + 1);
        }
        x.load(0, 1);
        x.load(2, 3);
        x.load(5, 6);
        CHECK.due("send all there is, as much as the way bears", x.send(1, 0), 0);
        CHECK.due("told(1, 0)", x.told(1, 0), 0);
        CHECK.due("told(1, 1)", x.told(1, 1), 2);
        CHECK.due("told(1, 5)", x.told(1, 5), 0);
        CHECK.due("told(0, 5), not come yet", x.told(0, 5), 0);
        CHECK.due("send back over the way", x.send(0, 0), 1);
        CHECK.due("from 0", x.canoe(1, 0), 0);
        CHECK.due("to 1", x.canoe(1, 1), 1);
        CHECK.due("send over the other way", x.send(1, 1), 2);
        CHECK.due("to 2", x.canoe(2, 1), 2);
        CHECK.due("days to go", x.canoe(2, 3), 6);
        CHECK.due("count(NONE, 3)", x.count(-1, 3), 3);
    }

    private static void sendingRefused() {
        FurPosts x = Check.posts(3);
        x.way(0, 1, 1000364, 10);
        x.store(0, 0, 8);
        x.store(0, 1, 8);
        x.order(0, 1, 0, 9);
        x.load(0, 8);
        x.load(1, 3);
        CHECK.due("the way doesn't bear 11", x.send(0, 0), -1);
        x.load(0, 9);
        x.load(1, 0);
        CHECK.due("there are no 9", x.send(0, 0), -1);
        CHECK.due("not the way's post", x.send(2, 0), -1);
        for (int bad : FAR_OFF) {
            CHECK.due("send(" + bad + ", 0)", x.send(bad, 0), -1);
            CHECK.due("send(0, " + bad + ")", x.send(0, bad), -1);
        }
        CHECK.due("send(3, 0)", x.send(3, 0), -1);
        CHECK.due("send(0, 1)", x.send(0, 1), -1);
        CHECK.due("send(0, 12)", x.send(0, 12), -1);
        CHECK.due("the store is whole", x.told(0, 0), 8);
        CHECK.due("the letter lies there", x.told(0, 6), 1);
        CHECK.due("no canoe came", x.count(-1, 3), 0);
        x.load(0, 8);
        x.load(1, 2);
        CHECK.due("send(0, 0)", x.send(0, 0), 0);
        CHECK.due("told(0, 0)", x.told(0, 0), 0);
        CHECK.due("told(0, 6)", x.told(0, 6), 0);
        x.load(0, 1);
        CHECK.due("send, refused", x.send(0, 0), -1);
        x.store(0, 0, 1);
        CHECK.due("a refused send keeps its load", x.send(0, 0), 1);
        CHECK.due("canoe(1, 20)", x.canoe(1, 20), 1);
    }

    private static void openDays() {
        FurPosts x = Check.posts(2);
        x.way(0, 1, 1100110, 5);
        x.go(99);
        CHECK.due("send on day 99", x.send(0, 0), -1);
        x.go(1);
        CHECK.due("send on day 100", x.send(0, 0), 0);
        x.go(10);
        CHECK.due("send on day 110", x.send(0, 0), 1);
        x.go(1);
        CHECK.due("the second came on its last open day", x.canoe(1, 6), 110);
        CHECK.due("send on day 111", x.send(0, 0), -1);
        x.go(365 - 12);
        CHECK.due("send on day 99 of the next year", x.send(0, 0), -1);
        x.go(1);
        CHECK.due("send on day 100 of the next year", x.send(0, 0), 2);
        CHECK.due("canoe(2, 5)", x.canoe(2, 5), 465);
    }

    private static void lastDay() {
        FurPosts x = Check.row(2);
        for (int i = 0; i < 7; i++) {
            x.go(400);
        }
        CHECK.due("go(199)", x.go(199), 2999);
        CHECK.due("send on day 2999", x.send(0, 0), 0);
        CHECK.due("go(400)", x.go(400), 3000);
        CHECK.due("it came on day 2999", x.canoe(0, 6), 2999);
        CHECK.due("send on day 3000", x.send(0, 0), -1);
        CHECK.due("go(1)", x.go(1), 3000);
        CHECK.due("go(0)", x.go(0), 3000);
        CHECK.due("go(401)", x.go(401), -1);
        CHECK.due("count(NONE, 0)", x.count(-1, 0), 3000);
    }

    private static void hundredAndTwentyCanoes() {
        FurPosts x = Check.row(2);
        for (int i = 0; i < 120; i++) {
            CHECK.due("send", x.send(i % 2, 0), i);
        }
        x.store(0, 0, 1);
        x.load(0, 1);
        CHECK.due("send, 120 came", x.send(0, 0), -1);
        CHECK.due("count(NONE, 3)", x.count(-1, 3), 120);
        CHECK.due("told(0, 0)", x.told(0, 0), 1);
        CHECK.due("canoe(119, 0)", x.canoe(119, 0), 1);
        CHECK.due("canoe(120, 0)", x.canoe(120, 0), -1);
        x.go(1);
        CHECK.due("canoe(119, 4)", x.canoe(119, 4), 1);
        CHECK.due("send, they came all the same", x.send(0, 0), -1);
    }

    private static void losing() {
        FurPosts x = Check.row(2);
        x.store(0, 1, 9);
        x.store(0, 4, 9);
        x.load(1, 5);
        x.load(4, 6);
        x.send(0, 0);
        x.spoil(0, 4, 2);
        CHECK.due("lose(0)", x.lose(0), 9);
        CHECK.due("lose(0) again", x.lose(0), -1);
        CHECK.due("spoil of one that is lost", x.spoil(0, 1, 1), false);
        CHECK.due("count(1, 4)", x.count(1, 4), 5);
        CHECK.due("count(4, 4)", x.count(4, 4), 4);
        CHECK.due("count(4, 5)", x.count(4, 5), 2);
        CHECK.due("it has nothing", x.canoe(0, 11), 0);
        CHECK.due("it was sent with 6", x.canoe(0, 24), 6);
        CHECK.due("days to go", x.canoe(0, 3), 0);
        CHECK.due("it is lost", x.canoe(0, 4), 2);
        x.go(3);
        CHECK.due("it never comes", x.canoe(0, 4), 2);
        CHECK.due("no days to go yet", x.canoe(0, 3), 0);
        CHECK.due("canoe(0, 6)", x.canoe(0, 6), -1);
        CHECK.due("told(1, 1)", x.told(1, 1), 0);
        CHECK.due("send with nothing", x.send(0, 0), 1);
        CHECK.due("lose(1)", x.lose(1), 0);
        x.send(0, 0);
        x.go(1);
        CHECK.due("lose of one that came", x.lose(2), -1);
        for (int bad : FAR_OFF) {
            CHECK.due("lose(" + bad + ")", x.lose(bad), -1);
        }
        CHECK.due("lose(3)", x.lose(3), -1);
        CHECK.due("lose(120)", x.lose(120), -1);
    }

    private static void losingEachWare() {
        FurPosts x = Check.row(2);
        for (int ware = 0; ware < 6; ware++) {
            x.store(0, ware, 9);
            x.load(ware, ware + 1);
        }
        x.send(0, 0);
        CHECK.due("lose(0)", x.lose(0), 21);
        for (int ware = 0; ware < 6; ware++) {
            CHECK.due("count(" + ware + ", 4)", x.count(ware, 4), ware + 1);
            CHECK.due("canoe(0, 1" + ware + ")", x.canoe(0, 10 + ware), 0);
        }
    }

    private static void spoiling() {
        FurPosts x = Check.row(2);
        x.store(0, 3, 20);
        x.load(3, 10);
        x.send(0, 0);
        CHECK.due("spoil(0, 3, 11)", x.spoil(0, 3, 11), false);
        CHECK.due("spoil(0, 3, 0)", x.spoil(0, 3, 0), false);
        CHECK.due("spoil(0, 3, -1)", x.spoil(0, 3, -1), false);
        CHECK.due("spoil(0, 3, MIN)", x.spoil(0, 3, Integer.MIN_VALUE), false);
        CHECK.due("spoil(0, 3, MAX)", x.spoil(0, 3, Integer.MAX_VALUE), false);
        CHECK.due("spoil(0, 2, 1)", x.spoil(0, 2, 1), false);
        CHECK.due("spoil(0, 6, 1)", x.spoil(0, 6, 1), false);
        for (int bad : FAR_OFF) {
            CHECK.due("spoil(" + bad + ", 3, 1)", x.spoil(bad, 3, 1), false);
            CHECK.due("spoil(0, " + bad + ", 1)", x.spoil(0, bad, 1), false);
        }
        CHECK.due("spoil(1, 3, 1)", x.spoil(1, 3, 1), false);
        CHECK.due("nothing is spoilt yet", x.count(3, 5), 0);
        CHECK.due("spoil(0, 3, 4)", x.spoil(0, 3, 4), true);
        CHECK.due("canoe(0, 13)", x.canoe(0, 13), 6);
        CHECK.due("canoe(0, 23)", x.canoe(0, 23), 10);
        CHECK.due("spoil(0, 3, 7)", x.spoil(0, 3, 7), false);
        CHECK.due("spoil(0, 3, 6)", x.spoil(0, 3, 6), true);
        CHECK.due("count(3, 5)", x.count(3, 5), 10);
        x.load(3, 10);
        x.send(0, 0);
        x.go(1);
        CHECK.due("spoil of one that came", x.spoil(1, 3, 1), false);
        CHECK.due("told(1, 3)", x.told(1, 3), 10);
        CHECK.due("count(3, 5) yet", x.count(3, 5), 10);
    }

    private static void going() {
        FurPosts x = Check.posts(2);
        x.way(0, 1, 3000364, 5);
        CHECK.due("go(0)", x.go(0), 0);
        for (int bad : new int[] {-1, 401, Integer.MIN_VALUE, Integer.MAX_VALUE}) {
            CHECK.due("go(" + bad + ")", x.go(bad), -1);
        }
        CHECK.due("NOW", x.count(-1, 0), 0);
        x.store(0, 0, 2);
        x.load(0, 2);
        x.send(0, 0);
        CHECK.due("go(1)", x.go(1), 1);
        x.send(0, 0);
        CHECK.due("go(1)", x.go(1), 2);
        CHECK.due("canoe(0, 3)", x.canoe(0, 3), 1);
        CHECK.due("canoe(1, 3)", x.canoe(1, 3), 2);
        CHECK.due("told(1, 0)", x.told(1, 0), 0);
        CHECK.due("go(1)", x.go(1), 3);
        CHECK.due("canoe(0, 4)", x.canoe(0, 4), 1);
        CHECK.due("canoe(0, 6)", x.canoe(0, 6), 2);
        CHECK.due("canoe(1, 4)", x.canoe(1, 4), 0);
        CHECK.due("told(1, 0)", x.told(1, 0), 2);
        CHECK.due("go(400)", x.go(400), 403);
        CHECK.due("canoe(1, 6)", x.canoe(1, 6), 3);
        CHECK.due("canoe(0, 3), long behind it", x.canoe(0, 3), 0);
        CHECK.due("told(1, 0), once", x.told(1, 0), 2);
    }

    private static void frozenWays() {
        FurPosts x = Check.posts(2);
        x.way(0, 1, 40360364, 5);
        x.go(362);
        x.send(0, 0);
        x.go(3);
        CHECK.due("3 open days went by", x.canoe(0, 3), 37);
        x.go(360);
        CHECK.due("none of the frozen ones counts", x.canoe(0, 3), 37);
        x.go(1);
        CHECK.due("day 360 counts", x.canoe(0, 3), 36);
        x.go(4);
        CHECK.due("up to day 364", x.canoe(0, 3), 32);
        for (int i = 0; i < 7; i++) {
            x.go(400);
        }
        // Open days are left in the years 3 to 8 alone: six times five.
        CHECK.due("2 to go at the end of days", x.canoe(0, 3), 2);
        CHECK.due("under way at the end of days", x.canoe(0, 4), 0);
        CHECK.due("NOW", x.count(-1, 0), 3000);
        CHECK.due("lose at the end of days", x.lose(0), 0);
    }

    private static void storesAboveTheMost() {
        FurPosts x = Check.row(2);
        for (int i = 0; i < 10; i++) {
            x.store(1, 0, 10000);
        }
        x.store(0, 0, 5);
        x.load(0, 5);
        x.send(0, 0);
        x.go(1);
        CHECK.due("what came is in the store", x.told(1, 0), 100005);
        CHECK.due("store(1, 0, 1)", x.store(1, 0, 1), -1);
        CHECK.due("buy(1, 0, 0, 1)", x.buy(1, 0, 0, 1), -1);
        CHECK.due("owes(1, 0)", x.owes(1, 0), 0);
        CHECK.due("give(1, 0, 0, 6)", x.give(1, 0, 0, 6), 99999);
        CHECK.due("store(1, 0, 1)", x.store(1, 0, 1), 100000);
    }

    private static void canoesTold() {
        FurPosts x = Check.posts(3);
        x.way(0, 1, 2000364, 5);
        x.way(2, 1, 3000364, 30);
        x.go(7);
        for (int ware = 0; ware < 6; ware++) {
            x.store(1, ware, 100);
            x.load(ware, ware + 2);
        }
        x.report(1, 2);
        x.report(1, 0);
        x.send(1, 1);
        x.spoil(0, 5, 3);
        int[] due = {1, 2, 1, 3, 0, 7, -1, 1, -1, -1, 2, 3, 4, 5, 6, 4, -1, -1, -1, -1, 2, 3, 4, 5, 6, 7, -1, -1};
        for (int what = 0; what < due.length; what++) {
            CHECK.due("under way: canoe(0, " + what + ")", x.canoe(0, what), due[what]);
        }
        x.go(3);
        due = new int[] {1, 2, 1, 0, 1, 7, 9, 1, -1, -1, 0, 0, 0, 0, 0, 0, -1, -1, -1, -1, 2, 3, 4, 5, 6, 7, -1};
        for (int what = 0; what < due.length; what++) {
            CHECK.due("came: canoe(0, " + what + ")", x.canoe(0, what), due[what]);
        }
        for (int bad : FAR_OFF) {
            CHECK.due("canoe(0, " + bad + ")", x.canoe(0, bad), -1);
            CHECK.due("canoe(" + bad + ", 0)", x.canoe(bad, 0), -1);
        }
        CHECK.due("canoe(1, 0)", x.canoe(1, 0), -1);
        CHECK.due("canoe(120, 0)", x.canoe(120, 0), -1);
    }
}
