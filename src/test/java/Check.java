/** Counts the answers that are not as due and tells them, for one test. */
final class Check {
    private final String test;
    private int asked;
    private int wrong;

    Check(String test) {
        this.test = test;
    }

    void due(String call, long got, long want) {
        asked++;
        if (got != want) {
            wrong++;
            System.out.println(test + ": " + call + " answered " + got + ", due is " + want);
        }
    }

    void due(String call, boolean got, boolean want) {
        due(call, got ? 1 : 0, want ? 1 : 0);
    }

    void end() {
        System.out.println(test + ": " + asked + " answers, " + wrong + " not as due");
        if (wrong != 0 || asked == 0) {
            System.exit(1);
        }
    }

    /** An object with so many posts and no ways. */
    static FurPosts posts(int n) {
        FurPosts x = new FurPosts();
        for (int i = 0; i < n; i++) {
            x.post();
        }
        return x;
    }

    /** Posts 0 .. n - 1 in a row, each joined with the one behind it: a day long, always open, 500 wares. */
    static FurPosts row(int n) {
        FurPosts x = posts(n);
        for (int i = 0; i + 1 < n; i++) {
            x.way(i, i + 1, 1000364, 500);
        }
        return x;
    }
}
