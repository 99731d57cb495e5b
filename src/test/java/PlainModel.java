import java.util.ArrayDeque;
import java.util.ArrayList;
import java.util.Arrays;
import java.util.Collections;
import java.util.Comparator;
import java.util.HashMap;
import java.util.List;
import java.util.Map;

/**
 * The document once more, held in another way than FurPosts holds it: what happened is written down
 * and counted anew each time it is asked for, and letters lie in lists.
 */
final class PlainModel {
    private static final class Way {
        int a;
        int b;
        int days;
        int first;
        int last;
        int bears;
    }

    private static final class Letter {
        int number;
        int from;
        int to;
        String kind;
        int what;
        int amount;
        int[] stock;
    }

    private static final class Canoe {
        int from;
        int to;
        int way;
        int sentDay;
        int cameDay = -1;
        boolean lost;
        int letterCount;
        int[] sent;
        int[] has;
        List<Letter> letters = new ArrayList<>();

        boolean underWay() {
            return !lost && cameDay < 0;
        }
    }

    private int now;
    private int posts;
    private int lettersWritten;
    private int debtsLost;
    private final List<Way> ways = new ArrayList<>();
    private final List<Canoe> canoes = new ArrayList<>();
    private final List<List<Letter>> bags = new ArrayList<>();
    private final List<List<Letter>> read = new ArrayList<>();
    /** Ware, what of count(), how many. */
    private final List<int[]> happened = new ArrayList<>();
    private final Map<Integer, Integer> stock = new HashMap<>();
    private final Map<Integer, Integer> owed = new HashMap<>();
    private final Map<Integer, Integer> wants = new HashMap<>();
    private final Map<Integer, Integer> loads = new HashMap<>();

    public int post() {
        if (posts == 8) {
            return -1;
        }
        bags.add(new ArrayList<>());
        read.add(new ArrayList<>());
        return posts++;
    }

    public int way(int a, int b, int what, int bears) {
        Way w = new Way();
        w.a = a;
        w.b = b;
        w.days = Math.floorDiv(what, 1000000);
        w.first = Math.floorMod(Math.floorDiv(what, 1000), 1000);
        w.last = Math.floorMod(what, 1000);
        w.bears = bears;
        boolean good = isPost(a) && isPost(b) && a != b && !neighbours(a).contains(b) && ways.size() < 12
                && 1 <= w.days && w.days <= 40 && w.first <= w.last && w.last <= 364 && 1 <= bears && bears <= 500;
        if (!good) {
            return -1;
        }
        ways.add(w);
        return ways.size() - 1;
    }

    public int store(int post, int ware, int n) {
        if (!isPost(post) || !isWare(ware) || n < 1 || n > 10000 || stockAt(post, ware) + n > 100000) {
            return -1;
        }
        happened.add(new int[] {ware, 0, n});
        return addStock(post, ware, n);
    }

    public boolean load(int ware, int n) {
        boolean good = isWare(ware) && 0 <= n && n <= 500;
        if (good) {
            loads.put(ware, n);
        }
        return good;
    }

    public int send(int post, int way) {
        if (!isPost(post) || way < 0 || way >= ways.size() || canoes.size() == 120 || now == 3000) {
            return -1;
        }
        Way w = ways.get(way);
        if (w.a != post && w.b != post || !isOpen(w, now)) {
            return -1;
        }
        int[] cargo = new int[6];
        for (int ware = 0; ware < 6; ware++) {
            cargo[ware] = loads.getOrDefault(ware, 0);
            if (cargo[ware] > stockAt(post, ware)) {
                return -1;
            }
        }
        if (Arrays.stream(cargo).sum() > w.bears) {
            return -1;
        }
        Canoe c = new Canoe();
        c.from = post;
        c.to = w.a + w.b - post;
        c.way = way;
        c.sentDay = now;
        c.sent = cargo;
        c.has = cargo.clone();
        for (int ware = 0; ware < 6; ware++) {
            addStock(post, ware, -cargo[ware]);
        }
        for (Letter letter : new ArrayList<>(bags.get(post))) {
            if (next(post, letter.to) == c.to) {
                bags.get(post).remove(letter);
                c.letters.add(letter);
            }
        }
        c.letterCount = c.letters.size();
        loads.clear();
        canoes.add(c);
        return canoes.size() - 1;
    }

    public int lose(int canoe) {
        if (!isUnderWay(canoe)) {
            return -1;
        }
        Canoe c = canoes.get(canoe);
        int sum = Arrays.stream(c.has).sum();
        for (int ware = 0; ware < 6; ware++) {
            happened.add(new int[] {ware, 4, c.has[ware]});
        }
        c.has = new int[6];
        c.lost = true;
        debtsLost += (int) c.letters.stream().filter(l -> l.kind.equals("debt")).count();
        c.letters.clear();
        return sum;
    }

    public boolean spoil(int canoe, int ware, int n) {
        if (!isUnderWay(canoe) || !isWare(ware) || n < 1 || n > canoes.get(canoe).has[ware]) {
            return false;
        }
        canoes.get(canoe).has[ware] -= n;
        happened.add(new int[] {ware, 5, n});
        return true;
    }

    public int go(int n) {
        if (n < 0 || n > 400) {
            return -1;
        }
        int end = Math.min(now + n, 3000);
        while (now < end) {
            for (Canoe c : canoes) {
                if (c.underWay() && daysGone(c, now + 1) == ways.get(c.way).days) {
                    come(c);
                }
            }
            now++;
        }
        return now;
    }

    public int sell(int post, int hunter, int ware, int n) {
        int owes = owes(post, hunter) + (isTrade(post, hunter, ware, n) ? n * price(post, ware) : 0);
        if (!isTrade(post, hunter, ware, n) || n > stockAt(post, ware) || owes > 100000) {
            return -1;
        }
        addStock(post, ware, -n);
        owed.put(post * 100 + hunter, owes);
        happened.add(new int[] {ware, 1, n});
        return owes;
    }

    public int buy(int post, int hunter, int ware, int n) {
        int owes = owes(post, hunter) - (isTrade(post, hunter, ware, n) ? n * price(post, ware) : 0);
        if (!isTrade(post, hunter, ware, n) || stockAt(post, ware) + n > 100000 || owes < -100000) {
            return -1;
        }
        addStock(post, ware, n);
        owed.put(post * 100 + hunter, owes);
        happened.add(new int[] {ware, 2, n});
        return owes;
    }

    public int give(int post, int hunter, int ware, int n) {
        if (!isTrade(post, hunter, ware, n) || n > stockAt(post, ware)) {
            return -1;
        }
        happened.add(new int[] {ware, 3, n});
        return addStock(post, ware, -n);
    }

    public int owes(int post, int hunter) {
        return isPost(post) && isHunter(hunter) ? owed.getOrDefault(post * 100 + hunter, 0) : 0;
    }

    public int price(int post, int ware) {
        if (!isPost(post) || !isWare(ware)) {
            return -1;
        }
        int price = 1;
        for (Letter letter : read.get(post)) {
            price = letter.kind.equals("order") && letter.what == ware ? letter.amount : price;
        }
        return price;
    }

    public int order(int from, int to, int ware, int price) {
        return isWare(ware) && 1 <= price && price <= 100 ? write(from, to, "order", ware, price) : -1;
    }

    public int debt(int from, int to, int hunter) {
        int owes = owes(from, hunter);
        if (owes == 0 || write(from, to, "debt", hunter, owes) == -1) {
            return -1;
        }
        owed.remove(from * 100 + hunter);
        return owes;
    }

    public int report(int from, int to) {
        return write(from, to, "report", now, 0);
    }

    public int known(int at, int of, int ware) {
        if (!isPost(at) || !isWare(ware)) {
            return -1;
        }
        Letter best = bestReport(at, of);
        return at == of ? stockAt(at, ware) : best == null ? -1 : best.stock[ware];
    }

    public int knownDay(int at, int of) {
        if (!isPost(at)) {
            return -1;
        }
        Letter best = bestReport(at, of);
        return at == of ? now : best == null ? -1 : best.what;
    }

    public int next(int from, int to) {
        if (!isPost(from) || !isPost(to) || from == to) {
            return -1;
        }
        int best = -1;
        for (int p : neighbours(from)) {
            int steps = stepsBetween(p, to);
            if (steps >= 0 && (best == -1 || steps < stepsBetween(best, to))) {
                best = p;
            }
        }
        return best;
    }

    public boolean want(int ware, int k, int parts) {
        boolean good = isWare(ware) && 0 <= k && k <= 20 && 0 <= parts && parts <= 1000;
        if (good) {
            wants.put(ware * 100 + k, parts);
        }
        return good;
    }

    public int indent(int post, int ware, int lack, int spoilt) {
        List<Integer> costs = new ArrayList<>();
        for (int q = 0; q <= 20; q++) {
            costs.add(cost(post, ware, lack, spoilt, q));
        }
        return costs.get(0) == -1 ? -1 : costs.indexOf(Collections.min(costs));
    }

    public int cost(int post, int ware, int lack, int spoilt, int q) {
        int parts = 0;
        for (int k = 0; k <= 20; k++) {
            parts += isWare(ware) ? wants.getOrDefault(ware * 100 + k, 0) : 0;
        }
        if (!isPost(post) || parts != 1000 || lack < 0 || lack > 100 || spoilt < 0 || spoilt > 100 || q < 0 || q > 20) {
            return -1;
        }
        int n = Math.min(1000, stockAt(post, ware));
        int sum = 0;
        for (int k = 0; k <= 20; k++) {
            int beyond = Math.max(0, k - n - q);
            int over = Math.max(0, n + q - k);
            sum += wants.getOrDefault(ware * 100 + k, 0) * (lack * beyond + spoilt * over);
        }
        return sum;
    }

    public int quarrel(int a, int b) {
        for (int i = 0; i < canoes.size(); i++) {
            Canoe c = canoes.get(i);
            boolean between = Math.min(a, b) == Math.min(c.from, c.to) && Math.max(a, b) == Math.max(c.from, c.to);
            boolean parts = c.lost || c.cameDay >= 0 && !Arrays.equals(c.sent, c.has);
            if (between && parts) {
                return i;
            }
        }
        return -1;
    }

    public int canoe(int c, int what) {
        if (c < 0 || c >= canoes.size()) {
            return -1;
        }
        Canoe it = canoes.get(c);
        if (what >= 10 && what <= 15) {
            return it.underWay() ? it.has[what - 10] : 0;
        }
        if (what >= 20 && what <= 25) {
            return it.sent[what - 20];
        }
        int toGo = it.underWay() ? ways.get(it.way).days - daysGone(it, now) : 0;
        int state = it.lost ? 2 : it.underWay() ? 0 : 1;
        int[] facts = {it.from, it.to, it.way, toGo, state, it.sentDay, it.cameDay, it.letterCount};
        return what >= 0 && what < facts.length ? facts[what] : -1;
    }

    public int told(int post, int what) {
        if (!isPost(post) || what < 0 || what > 7) {
            return -1;
        }
        if (what < 6) {
            return stockAt(post, what);
        }
        int sum = 0;
        for (int hunter = 0; hunter < 12; hunter++) {
            sum += owes(post, hunter);
        }
        return what == 6 ? bags.get(post).size() : sum;
    }

    public int count(int ware, int what) {
        if (what < 0 || what > 5 || ware < -1 || ware > 5) {
            return -1;
        }
        int[] all = {now, posts, ways.size(), canoes.size(), lettersWritten, debtsLost};
        return ware == -1 ? all[what]
                : happened.stream().filter(h -> h[0] == ware && h[1] == what).mapToInt(h -> h[2]).sum();
    }

    private void come(Canoe c) {
        c.cameDay = now;
        for (int ware = 0; ware < 6; ware++) {
            addStock(c.to, ware, c.has[ware]);
        }
        c.letters.sort(Comparator.comparingInt(l -> l.number));
        for (Letter letter : c.letters) {
            if (letter.to != c.to) {
                bags.get(c.to).add(letter);
                continue;
            }
            read.get(c.to).add(letter);
            if (letter.kind.equals("debt")) {
                owed.merge(c.to * 100 + letter.what, letter.amount, Integer::sum);
            }
        }
        c.letters.clear();
    }

    private int write(int from, int to, String kind, int what, int amount) {
        if (!isPost(from) || !isPost(to) || from == to || lettersWritten == 300) {
            return -1;
        }
        Letter letter = new Letter();
        letter.number = lettersWritten++;
        letter.from = from;
        letter.to = to;
        letter.kind = kind;
        letter.what = what;
        letter.amount = amount;
        letter.stock = new int[6];
        for (int ware = 0; ware < 6; ware++) {
            letter.stock[ware] = stockAt(from, ware);
        }
        bags.get(from).add(letter);
        return letter.number;
    }

    private Letter bestReport(int at, int of) {
        Letter best = null;
        for (Letter letter : read.get(at)) {
            if (letter.kind.equals("report") && letter.from == of && (best == null || letter.what >= best.what)) {
                best = letter;
            }
        }
        return best;
    }

    private int daysGone(Canoe c, int till) {
        int gone = 0;
        for (int day = c.sentDay; day < till; day++) {
            gone += isOpen(ways.get(c.way), day) ? 1 : 0;
        }
        return gone;
    }

    private List<Integer> neighbours(int post) {
        List<Integer> found = new ArrayList<>();
        for (Way w : ways) {
            if (w.a == post || w.b == post) {
                found.add(w.a + w.b - post);
            }
        }
        Collections.sort(found);
        return found;
    }

    private int stepsBetween(int from, int to) {
        Map<Integer, Integer> steps = new HashMap<>(Map.of(from, 0));
        ArrayDeque<Integer> open = new ArrayDeque<>(List.of(from));
        while (!open.isEmpty()) {
            int p = open.remove();
            for (int q : neighbours(p)) {
                if (steps.putIfAbsent(q, steps.get(p) + 1) == null) {
                    open.add(q);
                }
            }
        }
        return steps.getOrDefault(to, -1);
    }

    private static boolean isOpen(Way w, int day) {
        return w.first <= day % 365 && day % 365 <= w.last;
    }

    private boolean isUnderWay(int canoe) {
        return canoe >= 0 && canoe < canoes.size() && canoes.get(canoe).underWay();
    }

    private boolean isTrade(int post, int hunter, int ware, int n) {
        return isPost(post) && isHunter(hunter) && isWare(ware) && 1 <= n && n <= 1000;
    }

    private boolean isPost(int post) {
        return 0 <= post && post < posts;
    }

    private static boolean isWare(int ware) {
        return 0 <= ware && ware <= 5;
    }

    private static boolean isHunter(int hunter) {
        return 0 <= hunter && hunter <= 11;
    }

    private int stockAt(int post, int ware) {
        return stock.getOrDefault(post * 100 + ware, 0);
    }

    private int addStock(int post, int ware, int n) {
        return stock.merge(post * 100 + ware, n, Integer::sum);
    }
}
