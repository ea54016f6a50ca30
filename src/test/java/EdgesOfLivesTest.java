/** The edges of promises 24 to 31: TABLES of lives, AT, FIT, LIFE, GAPS, COULD, SISTERS. */
public final class EdgesOfLivesTest {
    private static final int NONE = Edges.NONE;
    private static final long WHOLE = 10_000_000_000_000_000L;
    private static final int[] NO_TABLES = {4, -1, Edges.MIN, Edges.MAX};

    /** Lays so many at AGES 5 * from to 5 * to. */
    private static void lay(ReedSheets x, int table, int from, int to, int n) {
        for (int k = from; k <= to; k++) {
            Edges.due("table", x.table(table, k, n), true);
        }
    }

    // ---- 24: table

    private static void ofTables() {
        Edges.edge("24: TABLES 0 to 3, each for itself", () -> {
            ReedSheets x = new ReedSheets();
            for (int t = 0; t < 4; t++) {
                Edges.due("table " + t, x.table(t, 2, 100 * t), true);
            }
            for (int t = 0; t < 4; t++) {
                Edges.due("at 10", x.at(t, 10), 500 * t);
                Edges.due("at 5", x.at(t, 5), 5000);
                Edges.due("at 15", x.at(t, 15), 5000);
            }
            for (int t : NO_TABLES) {
                Edges.due("table " + t, x.table(t, 2, 7), false);
            }
        });
        Edges.edge("24: AGE 5 * k, k 0 to 16", () -> {
            ReedSheets x = new ReedSheets();
            for (int k = 0; k <= 16; k++) {
                Edges.due("k " + k, x.table(1, k, 10 * k), true);
            }
            for (int k = 0; k <= 16; k++) {
                Edges.due("at " + 5 * k, x.at(1, 5 * k), 50 * k);
            }
            for (int k : new int[] {17, -1, Edges.MIN, Edges.MAX}) {
                Edges.due("k " + k, x.table(1, k, 7), false);
            }
        });
        Edges.edge("24: 0 to 1000 live", () -> {
            ReedSheets x = new ReedSheets();
            for (int n : new int[] {0, 1, 999, 1000}) {
                Edges.due("n " + n, x.table(1, 3, n), true);
                Edges.due("at", x.at(1, 15), 5 * n);
            }
            for (int n : new int[] {1001, -1, Edges.MIN, Edges.MAX}) {
                Edges.due("n " + n, x.table(1, 3, n), false);
                Edges.due("as it was", x.at(1, 15), 5000);
            }
        });
        Edges.edge("24: 1000 at first", () -> {
            ReedSheets x = new ReedSheets();
            for (int t = 0; t < 4; t++) {
                for (int k = 0; k <= 16; k++) {
                    Edges.due("at " + 5 * k, x.at(t, 5 * k), 5000);
                }
            }
        });
        Edges.edge("24: more may live later on, and fewer at birth", () -> {
            ReedSheets x = new ReedSheets();
            Edges.due("at birth", x.table(0, 0, 0), true);
            Edges.due("at 5", x.table(0, 1, 1000), true);
            Edges.due("at 1", x.at(0, 1), 1000);
        });
    }

    // ---- 25: at

    private static void ofAt() {
        Edges.edge("25: in fifths between two of them", () -> {
            ReedSheets x = new ReedSheets();
            lay(x, 2, 3, 3, 400);
            lay(x, 2, 4, 4, 300);
            int[] want = {5000, 4400, 3800, 3200, 2600, 2000, 1900, 1800, 1700, 1600, 1500, 2200, 2900, 3600, 4300, 5000};
            for (int age = 10; age <= 25; age++) {
                Edges.due("at " + age, x.at(2, age), want[age - 10]);
            }
        });
        Edges.edge("25: from birth on", () -> {
            ReedSheets x = new ReedSheets();
            lay(x, 2, 0, 0, 0);
            for (int age = 0; age <= 6; age++) {
                Edges.due("at " + age, x.at(2, age), Math.min(5, age) * 1000);
            }
        });
        Edges.edge("25: behind 80 as at 80 (times 5)", () -> {
            ReedSheets x = new ReedSheets();
            lay(x, 2, 16, 16, 300);
            int[] want = {5000, 4300, 3600, 2900, 2200, 1500, 1500, 1500, 1500, 1500, 1500, 1500};
            for (int age = 75; age <= 86; age++) {
                Edges.due("at " + age, x.at(2, age), want[age - 75]);
            }
            Edges.due("at 199", x.at(2, 199), 1500);
        });
        Edges.edge("25: AGE 0 to 200; NONE: others", () -> {
            ReedSheets x = new ReedSheets();
            Edges.due("at 0", x.at(0, 0), 5000);
            Edges.due("at 200", x.at(0, 200), 5000);
            for (int age : new int[] {201, -1, -5, Edges.MIN, Edges.MAX}) {
                Edges.due("at " + age, x.at(0, age), NONE);
            }
            for (int t : NO_TABLES) {
                Edges.due("table " + t, x.at(t, 7), NONE);
            }
        });
    }

    // ---- 26, 27: fit, best

    private static void ofFit() {
        Edges.edge("26: group k is of AGES 5 * k to 5 * k + 4; of 16 all from 80 on", () -> {
            for (int age = 0; age <= 120; age++) {
                ReedSheets x = Edges.with("man a " + age + ";");
                int group = Math.min(16, age / 5);
                for (int from = 0; from <= 16; from++) {
                    // one LINE: twice what lives elsewhere
                    int all = 2000 * (16 - from) + 1000;
                    long want = group < from ? 0 : 2 * (all - (group == 16 ? 1000 : 2000));
                    Edges.due("fit of " + age + " from " + from, x.fit(0, from), want);
                }
            }
        });
        Edges.edge("26: LIVING of k: those at k and at k + 1 together, of 16 those at 16", () -> {
            ReedSheets x = Edges.with("man a 70;man b 75;man c 76;man d 80;man e 99;man h 120;");
            // LIVING of 14: 300, of 15: 500, of 16: 300; LINES 1, 2, 3
            lay(x, 1, 14, 14, 100);
            lay(x, 1, 15, 15, 200);
            lay(x, 1, 16, 16, 300);
            Edges.due("from 14", x.fit(1, 14), 700 + 800 + 1500);
            Edges.due("from 15", x.fit(1, 15), 900 + 900);
            Edges.due("from 16", x.fit(1, 16), 0);
        });
        Edges.edge("26: from a group 0 to 16 on; NONE: others", () -> {
            ReedSheets x = Edges.with("man a 3;");
            Edges.due("from 0", x.fit(3, 0), 2 * 31000);
            Edges.due("from 16", x.fit(3, 16), 0);
            for (int from : new int[] {17, -1, Edges.MIN, Edges.MAX}) {
                Edges.due("from " + from, x.fit(3, from), NONE);
            }
            for (int t : NO_TABLES) {
                Edges.due("table " + t, x.fit(t, 0), NONE);
            }
        });
        Edges.edge("26: without LINES, or with none LIVING, it is 0", () -> {
            ReedSheets x = new ReedSheets();
            Edges.due("without LINES", x.fit(0, 0), 0);
            lay(x, 1, 0, 16, 0);
            Edges.put(x, 0, 0, 0, "man a 3;");
            Edges.due("none LIVING", x.fit(1, 0), 0);
            x.forget(0);
            Edges.due("forgotten", x.fit(0, 0), 0);
        });
        Edges.edge("26: of all READ SHEETS, as many LINES as can be", () -> {
            ReedSheets x = new ReedSheets();
            StringBuilder twelve = new StringBuilder();
            for (char name = 'a'; name < 'm'; name++) {
                twelve.append("man ").append(name).append(" 1;");
            }
            for (int s = 0; s < 24; s++) {
                Edges.put(x, s, s % 6, s % 8, twelve.toString());
            }
            // 288 LINES in group 0: 288 times what lives elsewhere, and again
            Edges.due("fit", x.fit(0, 0), 2L * 288 * 31000);
        });
        Edges.edge("27: the least, of equal ones the first", () -> {
            ReedSheets x = Edges.with("man a 3;");
            Edges.due("all are equal", x.best(0), 0);
            lay(x, 3, 5, 5, 0);
            Edges.due("the last one", x.best(0), 3);
            lay(x, 2, 9, 9, 0);
            Edges.due("two that are equal", x.best(0), 2);
            lay(x, 1, 9, 10, 0);
            Edges.due("one that is less", x.best(0), 1);
            lay(x, 0, 1, 16, 0);
            Edges.due("the first one", x.best(0), 0);
        });
        Edges.edge("27: from a group on, 0 to 16; NONE: others", () -> {
            ReedSheets x = Edges.with("man a 62;");
            lay(x, 2, 15, 15, 0);
            lay(x, 1, 2, 6, 0);
            Edges.due("from 0", x.best(0), 1);
            Edges.due("from 7", x.best(7), 2);
            Edges.due("from 12", x.best(12), 2);
            Edges.due("from 13", x.best(13), 0);
            Edges.due("from 16", x.best(16), 0);
            for (int from : new int[] {17, -1, Edges.MIN, Edges.MAX}) {
                Edges.due("from " + from, x.best(from), NONE);
            }
        });
        Edges.edge("27: without LINES all fit: the first", () -> {
            ReedSheets x = new ReedSheets();
            lay(x, 0, 3, 3, 0);
            Edges.due("best", x.best(0), 0);
        });
    }

    // ---- 28: life

    private static void ofLife() {
        Edges.edge("28: groups below one, 17: all; in lowest terms", () -> {
            ReedSheets x = new ReedSheets();
            for (int k = 0; k <= 16; k++) {
                x.table(1, k, 10 * (17 - k));
            }
            // LIVING of k: 10 * (33 - 2 * k); below b: 10 * b * (34 - b); of 16: 10
            int[][] want = {{0, 1}, {33, 40}, {8, 5}, {93, 40}, {3, 1}, {29, 8}, {21, 5}, {189, 40}, {26, 5}, {45, 8}, {6, 1},
                {253, 40}, {33, 5}, {273, 40}, {7, 1}, {57, 8}, {36, 5}, {289, 40}};
            for (int below = 0; below <= 17; below++) {
                Edges.dueFraction("below " + below, x.life(1, below, 0), x.life(1, below, 1), want[below][0], want[below][1]);
            }
        });
        Edges.edge("28: NONE: others", () -> {
            ReedSheets x = new ReedSheets();
            for (int below : new int[] {18, -1, Edges.MIN, Edges.MAX}) {
                Edges.due("below " + below, x.life(0, below, 0), NONE);
                Edges.due("below " + below, x.life(0, below, 1), NONE);
            }
            for (int t : NO_TABLES) {
                Edges.due("table " + t, x.life(t, 3, 0), NONE);
            }
            for (int what : new int[] {2, -1, Edges.MIN, Edges.MAX}) {
                Edges.due("what " + what, x.life(0, 3, what), NONE);
                Edges.due("what " + what, x.life(0, 0, what), NONE);
            }
            Edges.dueFraction("table 3", x.life(3, 17, 0), x.life(3, 17, 1), 165, 2);
        });
        Edges.edge("28: without any LIVING 0 / 1", () -> {
            ReedSheets x = new ReedSheets();
            lay(x, 0, 0, 16, 0);
            Edges.dueFraction("life", x.life(0, 17, 0), x.life(0, 17, 1), 0, 1);
            lay(x, 0, 0, 0, 1);
            Edges.dueFraction("one of group 0", x.life(0, 17, 0), x.life(0, 17, 1), 1, 400);
            lay(x, 0, 0, 0, 0);
            lay(x, 0, 16, 16, 1);
            Edges.dueFraction("one of 15 and of 16", x.life(0, 17, 0), x.life(0, 17, 1), 1, 200);
            Edges.dueFraction("below 16", x.life(0, 16, 0), x.life(0, 16, 1), 1, 400);
            Edges.dueFraction("below 15", x.life(0, 15, 0), x.life(0, 15, 1), 0, 1);
        });
    }

    // ---- 29: gap

    private static void ofGaps() {
        Edges.edge("29: -30 to 30", () -> {
            for (int years : new int[] {-30, -29, -1, 0, 1, 29, 30}) {
                Edges.due("gap " + years, new ReedSheets().gap(years), 1);
            }
            ReedSheets x = new ReedSheets();
            for (int years : new int[] {31, -31, Edges.MIN, Edges.MAX}) {
                Edges.due("gap " + years, x.gap(years), NONE);
            }
            Edges.due("how many", x.count(4), 0);
            Edges.due("the first", x.gap(7), 1);
        });
        Edges.edge("29: how many there are; NONE: 4 are there", () -> {
            ReedSheets x = new ReedSheets();
            int[] years = {5, 5, 31, -5, 0};
            int[] want = {1, 2, NONE, 3, 4};
            for (int i = 0; i < years.length; i++) {
                Edges.due("gap " + years[i], x.gap(years[i]), want[i]);
            }
            Edges.due("a fifth", x.gap(3), NONE);
            Edges.due("a fifth, as it is there", x.gap(5), NONE);
            Edges.due("how many", x.count(4), 4);
        });
        Edges.edge("29: a fifth GAP is not there", () -> {
            ReedSheets x = new ReedSheets();
            for (int i = 0; i < 4; i++) {
                x.gap(30);
            }
            x.gap(0);
            Edges.dueFraction("W 29", x.could(0, 20, 29, 0), x.could(0, 20, 29, 1), 0, 1);
            Edges.dueFraction("W 30", x.could(0, 20, 30, 0), x.could(0, 20, 30, 1), 15, 16);
        });
    }

    // ---- 30: could

    private static void could(ReedSheets x, int table, int age, int w, long above, long below) {
        Edges.dueFraction("could of " + age + ", W " + w, x.could(table, age, w, 0), x.could(table, age, w, 1), above, below);
    }

    private static void ofCould() {
        Edges.edge("30: without GAPS 0 / 1", () -> could(new ReedSheets(), 0, 20, 30, 0, 1));
        Edges.edge("30: those whose GAP is W at most, either way", () -> {
            ReedSheets x = new ReedSheets();
            x.gap(5);
            x.gap(-7);
            could(x, 0, 20, 0, 0, 1);
            could(x, 0, 20, 4, 0, 1);
            could(x, 0, 20, 5, 1, 2);
            could(x, 0, 20, 6, 1, 2);
            could(x, 0, 20, 7, 3, 4);
            x.gap(0);
            could(x, 0, 20, 0, 1, 2);
            x.gap(-5);
            could(x, 0, 20, 4, 1, 2);
            could(x, 0, 20, 5, 7, 8);
            could(x, 0, 20, 30, 15, 16);
        });
        Edges.edge("30: W 0 to 30", () -> {
            ReedSheets x = new ReedSheets();
            x.gap(30);
            x.gap(-30);
            could(x, 0, 40, 29, 0, 1);
            could(x, 0, 40, 30, 3, 4);
            for (int w : new int[] {31, -1, Edges.MIN, Edges.MAX}) {
                Edges.due("W " + w, x.could(0, 40, w, 0), NONE);
                Edges.due("W " + w, x.could(0, 40, w, 1), NONE);
            }
        });
        Edges.edge("30: lives at AGE + GAP: below 0 behind", () -> {
            ReedSheets x = new ReedSheets();
            lay(x, 0, 4, 4, 0);
            lay(x, 0, 5, 5, 200);
            lay(x, 0, 3, 3, 600);
            x.gap(5);
            could(x, 0, 20, 5, 1, 10);
            could(x, 0, 15, 5, 0, 1);
            // 22 + 5: 200 * 3 + 1000 * 2 = 2600
            could(x, 0, 22, 5, 13, 50);
        });
        Edges.edge("30: born behind him", () -> {
            ReedSheets x = new ReedSheets();
            lay(x, 0, 3, 3, 600);
            lay(x, 0, 5, 5, 200);
            x.gap(-5);
            could(x, 0, 20, 5, 3, 10);
            could(x, 0, 25, 5, 1, 2);
            could(x, 0, 30, 5, 1, 10);
        });
        Edges.edge("30: not asked if AGE + GAP is below 0", () -> {
            ReedSheets x = new ReedSheets();
            x.gap(-10);
            could(x, 0, 9, 10, 0, 1);
            could(x, 0, 10, 10, 1, 2);
            could(x, 0, 0, 30, 0, 1);
            x.gap(-30);
            could(x, 0, 29, 30, 1, 2);
            could(x, 0, 30, 30, 3, 4);
            x.table(1, 0, 0);
            could(x, 1, 10, 10, 0, 1);
            could(x, 1, 11, 10, 1, 10);
        });
        Edges.edge("30: beyond 80, up to 120 + 30", () -> {
            ReedSheets x = new ReedSheets();
            x.gap(30);
            lay(x, 0, 16, 16, 100);
            could(x, 0, 45, 30, 1, 2);
            could(x, 0, 50, 30, 1, 20);
            could(x, 0, 120, 30, 1, 20);
        });
        Edges.edge("30: AGE 0 to 120; NONE: others", () -> {
            ReedSheets x = new ReedSheets();
            x.gap(0);
            could(x, 0, 0, 0, 1, 2);
            could(x, 0, 120, 0, 1, 2);
            for (int age : new int[] {121, -1, Edges.MIN, Edges.MAX}) {
                Edges.due("AGE " + age, x.could(0, age, 0, 0), NONE);
                Edges.due("AGE " + age, x.could(0, age, 0, 1), NONE);
            }
            for (int t : NO_TABLES) {
                Edges.due("table " + t, x.could(t, 20, 0, 0), NONE);
            }
            for (int what : new int[] {2, -1, Edges.MIN, Edges.MAX}) {
                Edges.due("what " + what, x.could(0, 20, 0, what), NONE);
            }
        });
        Edges.edge("30: in lowest terms, of four the largest parts", () -> {
            ReedSheets x = new ReedSheets();
            for (int i = 0; i < 4; i++) {
                x.gap(0);
            }
            // at 1: 999 * 4 + 1 * 1000 = 4996: 1 less (5004 / 10000) ^ 4 = 1 less (1251 / 2500) ^ 4
            x.table(2, 0, 999);
            long four = 1251L * 1251 * 1251 * 1251;
            could(x, 2, 1, 0, 39062500000000L - four, 39062500000000L);
            // at 0: 4995: 1 less (1001 / 2000) ^ 4
            could(x, 2, 0, 0, 16000000000000L - 1001L * 1001 * 1001 * 1001, 16000000000000L);
            // at 4: 999 + 4000 = 4999: 1 less (5001 / 10000) ^ 4
            could(x, 2, 4, 0, WHOLE - 5001L * 5001 * 5001 * 5001, WHOLE);
        });
    }

    // ---- 31: sisters

    private static void sisters(ReedSheets x, int table, int w, long sum, long more) {
        Edges.due("sisters W " + w, x.sisters(table, w, 0), sum);
        Edges.due("more W " + w, x.sisters(table, w, 1), more);
    }

    private static void ofSisters() {
        Edges.edge("31: over the men of all MARRIAGES, by his AGE", () -> {
            ReedSheets x = Edges.with("man a 20;woman b 30 wife a;man c 10;woman d 40;");
            Edges.put(x, 9, 3, 3, "man h 30;man i 20;woman j 60 wife i sister i;man k 20;woman l 9 wife k;");
            lay(x, 0, 0, 16, 0);
            lay(x, 0, 4, 4, 1000);
            x.gap(0);
            sisters(x, 0, 0, 15 * WHOLE / 10, 0);
            x.forget(9);
            sisters(x, 0, 0, WHOLE / 2, 0);
        });
        Edges.edge("31: without MARRIAGES or GAPS 0", () -> {
            ReedSheets x = new ReedSheets();
            x.gap(0);
            sisters(x, 0, 30, 0, 0);
            ReedSheets y = Edges.with(Edges.weddings(0, 0, 0));
            sisters(y, 0, 30, 0, 3);
        });
        Edges.edge("31: by how many the FULL ones are above it, cut up", () -> {
            ReedSheets x = Edges.with(Edges.weddings(0, 0));
            x.gap(0);
            // 7 years old; two halves
            sisters(x, 0, 0, WHOLE, 1);
            x.table(1, 1, 999);
            // 999 * 3 + 1000 * 2 = 4997: above 1 by 0.0006 more than a whole one
            sisters(x, 1, 0, WHOLE / 10000 * 9994, 2);
            ReedSheets y = Edges.with(Edges.weddings(0, 4));
            y.gap(0);
            sisters(y, 0, 0, WHOLE, 0);
            y.table(1, 1, 999);
            sisters(y, 1, 0, WHOLE / 10000 * 9994, 1);
            y.table(2, 1, 0);
            y.table(2, 2, 0);
            sisters(y, 2, 0, 0, 1);
        });
        Edges.edge("31: cut up from the least part on", () -> {
            ReedSheets x = Edges.with(Edges.weddings(0));
            for (int i = 0; i < 4; i++) {
                x.gap(0);
            }
            // 1 less (1 - p) ^ 4: something is always left of one
            sisters(x, 0, 0, WHOLE / 16 * 15, 1);
            lay(x, 1, 0, 16, 0);
            x.table(1, 1, 1);
            // at 7: 3 of 10000
            sisters(x, 1, 0, WHOLE - 9997L * 9997 * 9997 * 9997, 1);
        });
        Edges.edge("31: a part of 10 ^ 16 below one, and above", () -> {
            // Of two men of 1 and 41 years the odds of no sister are (10000 - AT) / 10000, four times each:
            // together 10 ^ 16 + 1 parts, or 10 ^ 16 - 1.
            int[][] at = {{4067, 1710, 894, 2292, 521, 7, 901, 2403}, {1399, 801, 639, 3352, 311, 1489, 243, 3691}};
            for (int t = 0; t < 2; t++) {
                ReedSheets x = Edges.with("man a 1 father f mother g;woman b 1 wife a father f mother g;man c 41;woman d 1 wife c;");
                for (int i = 0; i < 8; i++) {
                    int four = Math.min(1000, at[t][i] / 4);
                    x.table(t, 2 * i, four);
                    x.table(t, 2 * i + 1, at[t][i] - 4 * four);
                    Edges.due("at", x.at(t, 10 * i + 1), at[t][i]);
                }
                for (int years = 0; years < 40; years += 10) {
                    x.gap(years);
                }
                sisters(x, t, 30, t == 0 ? WHOLE - 1 : WHOLE + 1, t == 0 ? 1 : 0);
            }
        });
        Edges.edge("31: 0 at least", () -> {
            ReedSheets x = Edges.with(Edges.weddings(4, 1, 2, 3));
            x.gap(0);
            sisters(x, 0, 0, 2 * WHOLE, 0);
            Edges.put(x, 1, 0, 0, Edges.weddings(0, 4));
            sisters(x, 0, 0, 3 * WHOLE, 0);
            Edges.put(x, 2, 0, 0, Edges.weddings(0, 0, 0));
            // 4 FULL ones of 9 MARRIAGES
            sisters(x, 0, 0, 9 * WHOLE / 2, 0);
            Edges.put(x, 3, 0, 0, Edges.weddings(0, 0));
            sisters(x, 0, 0, 11 * WHOLE / 2, 1);
        });
        Edges.edge("31: W 0 to 30", () -> {
            ReedSheets x = Edges.with(Edges.weddings(0));
            x.gap(30);
            sisters(x, 0, 29, 0, 1);
            sisters(x, 0, 30, WHOLE / 2, 1);
            for (int w : new int[] {31, -1, Edges.MIN, Edges.MAX}) {
                sisters(x, 0, w, NONE, NONE);
            }
        });
        Edges.edge("31: NONE: others", () -> {
            ReedSheets x = Edges.with(Edges.weddings(0));
            x.gap(0);
            for (int t : NO_TABLES) {
                sisters(x, t, 0, NONE, NONE);
            }
            for (int what : new int[] {2, -1, Edges.MIN, Edges.MAX}) {
                Edges.due("what " + what, x.sisters(0, 0, what), NONE);
            }
            sisters(x, 3, 0, WHOLE / 2, 1);
        });
        Edges.edge("31: all that can be: 144 MARRIAGES", () -> {
            ReedSheets x = new ReedSheets();
            for (int s = 0; s < 24; s++) {
                Edges.put(x, s, s % 6, s % 8, Edges.weddings(0, 0, 0, 0, 0, 0));
            }
            for (int i = 0; i < 4; i++) {
                x.gap(0);
            }
            sisters(x, 0, 0, 135 * WHOLE, 9);
        });
    }

    public static void main(String[] args) {
        ofTables();
        ofAt();
        ofFit();
        ofLife();
        ofGaps();
        ofCould();
        ofSisters();
        Edges.end();
    }
}
