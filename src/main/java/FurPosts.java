import java.util.Arrays;

/** A company's fur posts, its canoes, its letters and its hunters' debts. */
public final class FurPosts {
    public static final int NONE = -1;

    private static final int MAX_POSTS = 8;
    private static final int MAX_WAYS = 12;
    private static final int MAX_CANOES = 120;
    private static final int MAX_LETTERS = 300;
    private static final int WARES = 6;
    private static final int HUNTERS = 12;
    private static final int LAST_DAY = 3000;
    private static final int DAYS_OF_YEAR = 365;

    private static final int MAX_LONG = 40;
    private static final int MAX_BURDEN = 500;
    private static final int MAX_LANDED = 10000;
    private static final int MAX_STOCK = 100000;
    private static final int MAX_OWED = 100000;
    private static final int MAX_TRADED = 1000;
    private static final int MAX_PRICE = 100;
    private static final int MAX_DAYS_AT_ONCE = 400;

    private static final int MAX_WANTED = 20;
    private static final int MAX_ORDERED = 20;
    private static final int ALL_PARTS = 1000;
    private static final int MAX_STOCK_WEIGHED = 1000;
    private static final int MAX_RATE = 100;

    /** More ways than any two joined posts can be apart. */
    private static final int APART = 100;

    private static final int UNDER_WAY = 0;
    private static final int CAME = 1;
    private static final int LOST = 2;

    private static final int TALLIES = 6;
    private static final int TALLY_LANDED = 0;
    private static final int TALLY_SOLD = 1;
    private static final int TALLY_BOUGHT = 2;
    private static final int TALLY_GIVEN = 3;
    private static final int TALLY_LOST = 4;
    private static final int TALLY_SPOILT = 5;

    private final Post[] posts = new Post[MAX_POSTS];
    private final Way[] ways = new Way[MAX_WAYS];
    private final Canoe[] canoes = new Canoe[MAX_CANOES];
    private final Letter[] letters = new Letter[MAX_LETTERS];
    /** The fewest ways from each post to each other one; just 1 where two are joined. */
    private final int[][] distances = new int[MAX_POSTS][MAX_POSTS];
    private final int[][] wants = new int[WARES][MAX_WANTED + 1];
    private final int[][] tallies = new int[WARES][TALLIES];
    private final int[] loaded = new int[WARES];
    private int now;
    private int postCount;
    private int wayCount;
    private int canoeCount;
    private int letterCount;
    private int debtsLost;

    public FurPosts() {
        for (int p = 0; p < MAX_POSTS; p++) {
            Arrays.fill(distances[p], APART);
            distances[p][p] = 0;
        }
    }

    // ---- posts and ways

    public int post() {
        if (postCount >= MAX_POSTS) {
            return NONE;
        }
        posts[postCount] = new Post();
        postCount++;
        return postCount - 1;
    }

    public int way(int a, int b, int what, int bears) {
        if (!areTwoPosts(a, b) || distances[a][b] == 1 || wayCount >= MAX_WAYS) {
            return NONE;
        }
        if (what < 0 || !isWithin(bears, 1, MAX_BURDEN)) {
            return NONE;
        }
        int days = what / 1000000;
        int first = what / 1000 % 1000;
        int last = what % 1000;
        if (!isWithin(days, 1, MAX_LONG) || first > last || last >= DAYS_OF_YEAR) {
            return NONE;
        }
        ways[wayCount] = new Way(a, b, days, first, last, bears);
        wayCount++;
        shortenDistances(a, b);
        return wayCount - 1;
    }

    public int next(int from, int to) {
        if (!areTwoPosts(from, to) || distances[from][to] >= APART) {
            return NONE;
        }
        for (int p = 0; p < MAX_POSTS; p++) {
            if (distances[from][p] == 1 && distances[p][to] == distances[from][to] - 1) {
                return p;
            }
        }
        return NONE;
    }

    private void shortenDistances(int a, int b) {
        for (int i = 0; i < MAX_POSTS; i++) {
            for (int j = 0; j < MAX_POSTS; j++) {
                int forth = distances[i][a] + 1 + distances[b][j];
                int back = distances[i][b] + 1 + distances[a][j];
                distances[i][j] = Math.min(distances[i][j], Math.min(forth, back));
            }
        }
    }

    // ---- stores and canoes

    public int store(int post, int ware, int n) {
        Post here = postAt(post);
        if (here == null || !isWare(ware) || !isWithin(n, 1, MAX_LANDED)
                || here.stock[ware] + n > MAX_STOCK) {
            return NONE;
        }
        here.stock[ware] += n;
        tallies[ware][TALLY_LANDED] += n;
        return here.stock[ware];
    }

    public boolean load(int ware, int n) {
        if (!isWare(ware) || !isWithin(n, 0, MAX_BURDEN)) {
            return false;
        }
        loaded[ware] = n;
        return true;
    }

    public int send(int post, int way) {
        Post here = postAt(post);
        Way over = wayAt(way);
        if (here == null || over == null || !over.startsAt(post) || !over.isOpenOn(now)) {
            return NONE;
        }
        if (!canLoad(here, over) || canoeCount >= MAX_CANOES || now >= LAST_DAY) {
            return NONE;
        }
        int number = canoeCount;
        Canoe sent = new Canoe(post, over.otherEnd(post), way, over.days, now, loaded.clone());
        canoes[number] = sent;
        canoeCount++;
        for (int w = 0; w < WARES; w++) {
            here.stock[w] -= loaded[w];
            loaded[w] = 0;
        }
        sent.lettersSent = takeLetters(number, sent);
        return number;
    }

    public int lose(int canoe) {
        Canoe gone = canoeAt(canoe);
        if (gone == null || gone.state != UNDER_WAY) {
            return NONE;
        }
        gone.state = LOST;
        gone.daysToGo = 0;
        int sum = 0;
        for (int w = 0; w < WARES; w++) {
            sum += gone.wares[w];
            tallies[w][TALLY_LOST] += gone.wares[w];
            gone.wares[w] = 0;
        }
        loseLetters(canoe);
        return sum;
    }

    public boolean spoil(int canoe, int ware, int n) {
        Canoe wet = canoeAt(canoe);
        if (wet == null || wet.state != UNDER_WAY || !isWare(ware)
                || !isWithin(n, 1, wet.wares[ware])) {
            return false;
        }
        wet.wares[ware] -= n;
        wet.spoilt = true;
        tallies[ware][TALLY_SPOILT] += n;
        return true;
    }

    public int go(int n) {
        if (!isWithin(n, 0, MAX_DAYS_AT_ONCE)) {
            return NONE;
        }
        for (int i = 0; i < n && now < LAST_DAY; i++) {
            for (int c = 0; c < canoeCount; c++) {
                moveCanoe(c);
            }
            now++;
        }
        return now;
    }

    private boolean canLoad(Post here, Way over) {
        int sum = 0;
        for (int w = 0; w < WARES; w++) {
            if (loaded[w] > here.stock[w]) {
                return false;
            }
            sum += loaded[w];
        }
        return sum <= over.bears;
    }

    private int takeLetters(int number, Canoe sent) {
        int taken = 0;
        for (int i = 0; i < letterCount; i++) {
            Letter letter = letterAt(i);
            if (letter != null && letter.bag == sent.from && next(sent.from, letter.to) == sent.to) {
                letter.bag = NONE;
                letter.carrier = number;
                taken++;
            }
        }
        return taken;
    }

    private void loseLetters(int number) {
        for (int i = 0; i < letterCount; i++) {
            Letter letter = letterAt(i);
            if (letter != null && letter.carrier == number) {
                letter.carrier = NONE;
                if (letter instanceof Debt) {
                    debtsLost++;
                }
            }
        }
    }

    private void moveCanoe(int number) {
        Canoe canoe = canoeAt(number);
        if (canoe == null || canoe.state != UNDER_WAY) {
            return;
        }
        Way over = wayAt(canoe.way);
        Post there = postAt(canoe.to);
        if (over == null || there == null || !over.isOpenOn(now)) {
            return;
        }
        canoe.daysToGo--;
        if (canoe.daysToGo == 0) {
            landCanoe(canoe, there);
            landLetters(number, canoe.to, there);
        }
    }

    private void landCanoe(Canoe canoe, Post there) {
        canoe.state = CAME;
        canoe.dayCame = now;
        for (int w = 0; w < WARES; w++) {
            there.stock[w] += canoe.wares[w];
            canoe.wares[w] = 0;
        }
    }

    /** Letters have their numbers in the order in which they were written. */
    private void landLetters(int number, int post, Post there) {
        for (int i = 0; i < letterCount; i++) {
            Letter letter = letterAt(i);
            if (letter != null && letter.carrier == number) {
                letter.carrier = NONE;
                if (letter.to == post) {
                    letter.readAt(there);
                } else {
                    letter.bag = post;
                }
            }
        }
    }

    // ---- hunters and books

    public int sell(int post, int hunter, int ware, int n) {
        Post here = postAt(post);
        if (here == null || !isTrade(hunter, ware, n) || here.stock[ware] < n) {
            return NONE;
        }
        int owed = here.owed[hunter] + here.prices[ware] * n;
        if (owed > MAX_OWED) {
            return NONE;
        }
        here.stock[ware] -= n;
        here.owed[hunter] = owed;
        tallies[ware][TALLY_SOLD] += n;
        return owed;
    }

    public int buy(int post, int hunter, int ware, int n) {
        Post here = postAt(post);
        if (here == null || !isTrade(hunter, ware, n) || here.stock[ware] + n > MAX_STOCK) {
            return NONE;
        }
        int owed = here.owed[hunter] - here.prices[ware] * n;
        if (owed < -MAX_OWED) {
            return NONE;
        }
        here.stock[ware] += n;
        here.owed[hunter] = owed;
        tallies[ware][TALLY_BOUGHT] += n;
        return owed;
    }

    public int give(int post, int hunter, int ware, int n) {
        Post here = postAt(post);
        if (here == null || !isTrade(hunter, ware, n) || here.stock[ware] < n) {
            return NONE;
        }
        here.stock[ware] -= n;
        tallies[ware][TALLY_GIVEN] += n;
        return here.stock[ware];
    }

    public int owes(int post, int hunter) {
        Post here = postAt(post);
        return here == null || !isHunter(hunter) ? 0 : here.owed[hunter];
    }

    public int price(int post, int ware) {
        Post here = postAt(post);
        return here == null || !isWare(ware) ? NONE : here.prices[ware];
    }

    private static boolean isTrade(int hunter, int ware, int n) {
        return isHunter(hunter) && isWare(ware) && isWithin(n, 1, MAX_TRADED);
    }

    // ---- letters

    public int order(int from, int to, int ware, int price) {
        if (!canWrite(from, to) || !isWare(ware) || !isWithin(price, 1, MAX_PRICE)) {
            return NONE;
        }
        return putInBag(new Order(from, to, ware, price));
    }

    public int debt(int from, int to, int hunter) {
        Post here = postAt(from);
        if (here == null || !canWrite(from, to) || !isHunter(hunter) || here.owed[hunter] == 0) {
            return NONE;
        }
        int owed = here.owed[hunter];
        here.owed[hunter] = 0;
        putInBag(new Debt(from, to, hunter, owed));
        return owed;
    }

    public int report(int from, int to) {
        Post here = postAt(from);
        if (here == null || !canWrite(from, to)) {
            return NONE;
        }
        return putInBag(new Report(from, to, now, here.stock.clone()));
    }

    public int known(int at, int of, int ware) {
        Post here = postAt(at);
        if (here == null || !isWare(ware)) {
            return NONE;
        }
        if (at == of) {
            return here.stock[ware];
        }
        Report last = here.reportOf(of);
        return last == null ? NONE : last.stock[ware];
    }

    public int knownDay(int at, int of) {
        Post here = postAt(at);
        if (here == null) {
            return NONE;
        }
        if (at == of) {
            return now;
        }
        Report last = here.reportOf(of);
        return last == null ? NONE : last.day;
    }

    private boolean canWrite(int from, int to) {
        return areTwoPosts(from, to) && letterCount < MAX_LETTERS;
    }

    private int putInBag(Letter letter) {
        if (letterCount >= MAX_LETTERS) {
            return NONE;
        }
        letters[letterCount] = letter;
        letterCount++;
        return letterCount - 1;
    }

    // ---- wants of a year ahead

    public boolean want(int ware, int k, int parts) {
        if (!isWare(ware) || !isWithin(k, 0, MAX_WANTED) || !isWithin(parts, 0, ALL_PARTS)) {
            return false;
        }
        wants[ware][k] = parts;
        return true;
    }

    public int indent(int post, int ware, int lack, int spoilt) {
        int best = NONE;
        int least = NONE;
        for (int q = 0; q <= MAX_ORDERED; q++) {
            int costs = cost(post, ware, lack, spoilt, q);
            if (costs != NONE && (best == NONE || costs < least)) {
                best = q;
                least = costs;
            }
        }
        return best;
    }

    public int cost(int post, int ware, int lack, int spoilt, int q) {
        Post here = postAt(post);
        if (here == null || !isWare(ware) || !areWantsRight(ware) || !isWithin(q, 0, MAX_ORDERED)
                || !isWithin(lack, 0, MAX_RATE) || !isWithin(spoilt, 0, MAX_RATE)) {
            return NONE;
        }
        int there = Math.min(here.stock[ware], MAX_STOCK_WEIGHED) + q;
        int sum = 0;
        for (int k = 0; k <= MAX_WANTED; k++) {
            int each = k > there ? lack * (k - there) : spoilt * (there - k);
            sum += wants[ware][k] * each;
        }
        return sum;
    }

    private boolean areWantsRight(int ware) {
        int sum = 0;
        for (int k = 0; k <= MAX_WANTED; k++) {
            sum += wants[ware][k];
        }
        return sum == ALL_PARTS;
    }

    // ---- what is told

    public int quarrel(int a, int b) {
        if (!areTwoPosts(a, b)) {
            return NONE;
        }
        for (int c = 0; c < canoeCount; c++) {
            Canoe canoe = canoeAt(c);
            if (canoe != null && canoe.isBetween(a, b) && canoe.partsBooks()) {
                return c;
            }
        }
        return NONE;
    }

    public int canoe(int c, int what) {
        Canoe canoe = canoeAt(c);
        if (canoe == null) {
            return NONE;
        }
        if (isWare(what - 10)) {
            return canoe.wares[what - 10];
        }
        if (isWare(what - 20)) {
            return canoe.waresSent[what - 20];
        }
        switch (what) {
            case 0: return canoe.from;
            case 1: return canoe.to;
            case 2: return canoe.way;
            case 3: return canoe.daysToGo;
            case 4: return canoe.state;
            case 5: return canoe.daySent;
            case 6: return canoe.dayCame;
            case 7: return canoe.lettersSent;
            default: return NONE;
        }
    }

    public int told(int post, int what) {
        Post here = postAt(post);
        if (here == null) {
            return NONE;
        }
        if (isWare(what)) {
            return here.stock[what];
        }
        switch (what) {
            case 6: return countBag(post);
            case 7: return here.owedByAll();
            default: return NONE;
        }
    }

    public int count(int ware, int what) {
        if (ware == NONE) {
            return countOfAll(what);
        }
        return isWare(ware) && isWithin(what, 0, TALLIES - 1) ? tallies[ware][what] : NONE;
    }

    private int countBag(int post) {
        int sum = 0;
        for (int i = 0; i < letterCount; i++) {
            Letter letter = letterAt(i);
            if (letter != null && letter.bag == post) {
                sum++;
            }
        }
        return sum;
    }

    private int countOfAll(int what) {
        switch (what) {
            case 0: return now;
            case 1: return postCount;
            case 2: return wayCount;
            case 3: return canoeCount;
            case 4: return letterCount;
            case 5: return debtsLost;
            default: return NONE;
        }
    }

    // ---- what there is

    private static boolean isWithin(int n, int least, int most) {
        return n >= least && n <= most;
    }

    private static boolean isWare(int ware) {
        return ware >= 0 && ware < WARES;
    }

    private static boolean isHunter(int hunter) {
        return hunter >= 0 && hunter < HUNTERS;
    }

    private boolean areTwoPosts(int a, int b) {
        return a != b && postAt(a) != null && postAt(b) != null;
    }

    private Post postAt(int number) {
        return number >= 0 && number < MAX_POSTS ? posts[number] : null;
    }

    private Way wayAt(int number) {
        return number >= 0 && number < MAX_WAYS ? ways[number] : null;
    }

    private Canoe canoeAt(int number) {
        return number >= 0 && number < MAX_CANOES ? canoes[number] : null;
    }

    private Letter letterAt(int number) {
        return number >= 0 && number < MAX_LETTERS ? letters[number] : null;
    }

    private static final class Post {
        final int[] stock = new int[WARES];
        final int[] prices = new int[WARES];
        final int[] owed = new int[HUNTERS];
        final Report[] reports = new Report[MAX_POSTS];

        Post() {
            Arrays.fill(prices, 1);
        }

        Report reportOf(int post) {
            return post >= 0 && post < MAX_POSTS ? reports[post] : null;
        }

        int owedByAll() {
            int sum = 0;
            for (int h = 0; h < HUNTERS; h++) {
                sum += owed[h];
            }
            return sum;
        }
    }

    private static final class Way {
        final int a;
        final int b;
        final int days;
        final int firstOpen;
        final int lastOpen;
        final int bears;

        Way(int a, int b, int days, int firstOpen, int lastOpen, int bears) {
            this.a = a;
            this.b = b;
            this.days = days;
            this.firstOpen = firstOpen;
            this.lastOpen = lastOpen;
            this.bears = bears;
        }

        boolean startsAt(int post) {
            return post == a || post == b;
        }

        int otherEnd(int post) {
            return post == a ? b : a;
        }

        boolean isOpenOn(int day) {
            return isWithin(day % DAYS_OF_YEAR, firstOpen, lastOpen);
        }
    }

    private static final class Canoe {
        final int from;
        final int to;
        final int way;
        final int daySent;
        final int[] waresSent;
        final int[] wares;
        int lettersSent;
        int daysToGo;
        int dayCame = NONE;
        int state = UNDER_WAY;
        boolean spoilt;

        Canoe(int from, int to, int way, int daysToGo, int daySent, int[] waresSent) {
            this.from = from;
            this.to = to;
            this.way = way;
            this.daysToGo = daysToGo;
            this.daySent = daySent;
            this.waresSent = waresSent;
            this.wares = waresSent.clone();
        }

        boolean isBetween(int a, int b) {
            return from == a && to == b || from == b && to == a;
        }

        /** While it is under way nobody at the other post has counted its wares yet. */
        boolean partsBooks() {
            return state == LOST || state == CAME && spoilt;
        }
    }

    /** It lies in a post's bag or with a canoe; once it is read or lost, in neither. */
    private abstract static class Letter {
        final int from;
        final int to;
        int bag;
        int carrier = NONE;

        Letter(int from, int to) {
            this.from = from;
            this.to = to;
            this.bag = from;
        }

        abstract void readAt(Post post);
    }

    private static final class Order extends Letter {
        final int ware;
        final int asked;

        Order(int from, int to, int ware, int asked) {
            super(from, to);
            this.ware = ware;
            this.asked = asked;
        }

        void readAt(Post post) {
            if (isWare(ware)) {
                post.prices[ware] = asked;
            }
        }
    }

    private static final class Debt extends Letter {
        final int hunter;
        final int coins;

        Debt(int from, int to, int hunter, int coins) {
            super(from, to);
            this.hunter = hunter;
            this.coins = coins;
        }

        void readAt(Post post) {
            if (isHunter(hunter)) {
                post.owed[hunter] += coins;
            }
        }
    }

    private static final class Report extends Letter {
        final int day;
        final int[] stock;

        Report(int from, int to, int day, int[] stock) {
            super(from, to);
            this.day = day;
            this.stock = stock;
        }

        void readAt(Post post) {
            Report old = post.reportOf(from);
            if (from >= 0 && from < MAX_POSTS && (old == null || day >= old.day)) {
                post.reports[from] = this;
            }
        }
    }
}
