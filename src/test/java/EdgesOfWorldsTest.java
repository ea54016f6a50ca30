/**
 * The edges of promises 39 and 40: WORLDS and RATES. The answers that are due come from a plain telling of the
 * document's words; each edge breaks it in one place and asks WORLDS in which that makes a difference.
 */
public final class EdgesOfWorldsTest {
    private static final int NONE = Edges.NONE;
    private static final int FOUND = 6;

    /** What is told otherwise than the document does. */
    private enum Broken {
        NOTHING, MODULUS_LESS, NOT_CUT, CHILDREN_FROM_0, CHILDREN_OF_5, GIRLS_ON_0, YEARS_FROM_0, YEARS_OF_4, FIRST_OF_45,
        FIRST_OF_44, ALIVE_AT_AT, ALIVE_BELOW_LESS, ALIVE_OF_4999, ALIVE_OF_5001, MEN_FROM_16, MEN_FROM_20, MEN_DEAD, SISTER_DEAD,
        SISTER_FROM_20, W_LESS, W_MORE, W_OLDER, W_YOUNGER, MARRIED_TWICE, YOUNGEST_SISTER, ANY_SISTER, YOUNGEST_MAN,
        ODDS_OR_EQUAL, ODDS_LESS, ODDS_OF_11, DRAW_WITHOUT, NO_DRAW_AT_0, OTHERS_NOT_COUNTED, SEED_KEPT, SEED_MORE
    }

    /** One WORLD, told from the document. */
    private static final class Told {
        private final int[] live;
        private final Broken broken;
        private long g;
        int marriages;
        int withSisters;

        Told(int[] live, Broken broken) {
            this.live = live;
            this.broken = broken;
        }

        private boolean is(Broken other) {
            return broken == other;
        }

        private int draw(int m) {
            g = (g * 1103515245L + 12345L) % (is(Broken.MODULUS_LESS) ? 2147483647L : 2147483648L);
            return (int) (is(Broken.NOT_CUT) ? g % m : g / 65536 % m);
        }

        private int at(int age) {
            int k = age / 5;
            return k >= 16 ? 5 * live[16] : live[k] * (5 - age % 5) + live[k + 1] * (age % 5);
        }

        Told run(int seed, int houses, int w, int odds) {
            g = is(Broken.SEED_MORE) ? seed + 1 : seed;
            for (int h = 0; h < houses; h++) {
                if (is(Broken.SEED_KEPT)) {
                    g = seed;
                }
                house(w, odds);
            }
            return this;
        }

        private void house(int w, int odds) {
            int n = draw(is(Broken.CHILDREN_OF_5) ? 5 : 6) + (is(Broken.CHILDREN_FROM_0) ? 0 : 1);
            boolean[] girl = new boolean[n];
            boolean[] alive = new boolean[n];
            boolean[] married = new boolean[n];
            int[] age = new int[n];
            int last = is(Broken.FIRST_OF_44) ? 44 : 45;
            for (int i = 0; i < n; i++) {
                girl[i] = draw(2) == (is(Broken.GIRLS_ON_0) ? 0 : 1);
                int years = draw(is(Broken.YEARS_OF_4) ? 4 : 5) + (is(Broken.YEARS_FROM_0) ? 0 : 1);
                last -= i == 0 && is(Broken.FIRST_OF_45) ? 0 : years;
                age[i] = last;
                int lives = draw(is(Broken.ALIVE_OF_4999) ? 4999 : is(Broken.ALIVE_OF_5001) ? 5001 : 5000);
                int bound = at(last) + (is(Broken.ALIVE_AT_AT) ? 1 : is(Broken.ALIVE_BELOW_LESS) ? -1 : 0);
                alive[i] = lives < bound;
            }
            for (int k = 0; k < n; k++) {
                int i = is(Broken.YOUNGEST_MAN) ? n - 1 - k : k;
                int from = is(Broken.MEN_FROM_16) ? 16 : is(Broken.MEN_FROM_20) ? 20 : 15;
                if (!girl[i] && (alive[i] || is(Broken.MEN_DEAD)) && age[i] >= from) {
                    marry(i, girl, alive, married, age, w, odds);
                }
            }
        }

        private void marry(int he, boolean[] girl, boolean[] alive, boolean[] married, int[] age, int w, int odds) {
            int found = -1;
            for (int i = 0; i < age.length; i++) {
                int years = age[i] - age[he];
                int most = w + (is(Broken.W_MORE) ? 1 : is(Broken.W_LESS) ? -1 : 0);
                boolean near = years <= most && years >= -most;
                near &= !is(Broken.W_OLDER) || years >= 0;
                near &= !is(Broken.W_YOUNGER) || years <= 0;
                boolean may = girl[i] && (alive[i] || is(Broken.SISTER_DEAD)) && age[i] >= (is(Broken.SISTER_FROM_20) ? 20 : 12)
                        && near && (!married[i] || is(Broken.MARRIED_TWICE));
                if (may && (found < 0 || is(Broken.YOUNGEST_SISTER))) {
                    found = i;
                } else if (may && is(Broken.ANY_SISTER) && draw(10) < odds) {
                    found = i;
                    break;
                }
            }
            boolean so = false;
            if (found >= 0 && !(is(Broken.NO_DRAW_AT_0) && odds == 0) || is(Broken.DRAW_WITHOUT)) {
                int drawn = draw(is(Broken.ODDS_OF_11) ? 11 : 10);
                so = found >= 0 && drawn < odds + (is(Broken.ODDS_OR_EQUAL) ? 1 : is(Broken.ODDS_LESS) ? -1 : 0);
            }
            if (so) {
                married[found] = true;
                withSisters++;
            }
            marriages += so || !is(Broken.OTHERS_NOT_COUNTED) ? 1 : 0;
        }
    }

    /** TABLES: 0 all live, 1 falls, 2 half of all, 3 with a step at 20 and at 30. */
    private static int live(int table, int k) {
        return table == 0 ? 1000 : table == 1 ? 1000 - 60 * k : table == 2 ? 500 : k < 4 ? 900 : k < 6 ? 400 : 700;
    }

    private static ReedSheets withTables() {
        ReedSheets x = new ReedSheets();
        for (int t = 1; t < 4; t++) {
            for (int k = 0; k <= 16; k++) {
                x.table(t, k, live(t, k));
            }
        }
        return x;
    }

    private static int[] lives(int table) {
        int[] all = new int[17];
        for (int k = 0; k <= 16; k++) {
            all[k] = live(table, k);
        }
        return all;
    }

    private static void world(ReedSheets x, int seed, int houses, int table, int w, int odds) {
        Told told = new Told(lives(table), Broken.NOTHING).run(seed, houses, w, odds);
        String what = "world " + seed + ", " + houses + ", " + table + ", " + w + ", " + odds;
        Edges.due(what + ": MARRIAGES", x.world(seed, houses, table, w, odds, 0), told.marriages);
        Edges.due(what + ": with sisters", x.world(seed, houses, table, w, odds, 1), told.withSisters);
    }

    private static boolean differs(Broken broken, int seed, int houses, int table, int w, int odds) {
        Told right = new Told(lives(table), Broken.NOTHING).run(seed, houses, w, odds);
        Told wrong = new Told(lives(table), broken).run(seed, houses, w, odds);
        return right.marriages != wrong.marriages || right.withSisters != wrong.withSisters;
    }

    /** Asks some WORLDS in which what is broken makes a difference. */
    private static void breaks(Broken broken) {
        int[] odds = {5, 10, 0, 9, 1};
        int[] ws = {3, 0, 30, 7, 1};
        ReedSheets x = withTables();
        int found = 0;
        for (int seed = 0; seed < 10000 && found < FOUND; seed++) {
            int houses = 1 + seed % 40;
            int table = seed % 4;
            int w = ws[seed / 4 % 5];
            int of = odds[seed / 20 % 5];
            if (differs(broken, seed, houses, table, w, of)) {
                found++;
                world(x, seed, houses, table, w, of);
            }
        }
        // Some come up in few WORLDS: one of 15 years is the sixth child, and all are born 5 years apart.
        for (int seed = 0; seed < 10000 && found < FOUND; seed++) {
            if (differs(broken, seed, 40, 0, 30, 5)) {
                found++;
                world(x, seed, 40, 0, 30, 5);
            }
        }
        Edges.due("there are WORLDS with a difference", found > 0, true);
    }

    private static void ofTelling() {
        Edges.edge("39: the telling is that of ../shared/tests", () -> {
            int[][] want = {{3, 20, 1, 5, 7, 27, 12}, {9999, 40, 1, 30, 10, 77, 38}, {0, 1, 0, 0, 0, 1, 0}, {812, 33, 2, 8, 4, 63, 15}};
            for (int[] v : want) {
                Told told = new Told(lives(0), Broken.NOTHING).run(v[0], v[1], v[3], v[4]);
                Edges.due("MARRIAGES", told.marriages, v[5]);
                Edges.due("with sisters", told.withSisters, v[6]);
            }
        });
        for (Broken broken : Broken.values()) {
            if (broken != Broken.NOTHING) {
                Edges.edge("39: not " + broken, () -> breaks(broken));
            }
        }
    }

    private static void ofWorlds() {
        Edges.edge("39: SEED 0 to 9999", () -> {
            ReedSheets x = withTables();
            for (int seed : new int[] {0, 1, 9998, 9999}) {
                world(x, seed, 40, 1, 5, 5);
            }
            for (int seed : new int[] {10000, -1, Edges.MIN, Edges.MAX}) {
                Edges.due("SEED " + seed, x.world(seed, 1, 0, 0, 0, 0), NONE);
                Edges.due("SEED " + seed, x.world(seed, 1, 0, 0, 0, 1), NONE);
            }
        });
        Edges.edge("39: n 1 to 40 HOUSES", () -> {
            ReedSheets x = withTables();
            for (int houses = 1; houses <= 40; houses++) {
                world(x, 77, houses, 0, 5, 5);
            }
            for (int houses : new int[] {0, 41, -1, Edges.MIN, Edges.MAX}) {
                Edges.due("HOUSES " + houses, x.world(0, houses, 0, 0, 0, 0), NONE);
                Edges.due("HOUSES " + houses, x.rates(1, houses, 0, 0, 0), NONE);
            }
        });
        Edges.edge("39: by a TABLE 0 to 3", () -> {
            ReedSheets x = withTables();
            for (int table = 0; table < 4; table++) {
                world(x, 5, 40, table, 5, 5);
            }
            for (int table : new int[] {4, -1, Edges.MIN, Edges.MAX}) {
                Edges.due("TABLE " + table, x.world(0, 1, table, 0, 0, 0), NONE);
            }
        });
        Edges.edge("39: W 0 to 30", () -> {
            ReedSheets x = withTables();
            for (int w = 0; w <= 30; w++) {
                world(x, 9, 40, 0, w, 10);
            }
            for (int w : new int[] {31, -1, Edges.MIN, Edges.MAX}) {
                Edges.due("W " + w, x.world(0, 1, 0, w, 0, 0), NONE);
            }
        });
        Edges.edge("39: W 0: brothers and sisters are a year apart at least", () -> {
            ReedSheets x = withTables();
            for (int seed = 0; seed < 100; seed++) {
                Edges.due("with sisters", x.world(seed, 40, 0, 0, 10, 1), 0);
            }
        });
        Edges.edge("39: ODDS 0 to 10 of ten", () -> {
            ReedSheets x = withTables();
            for (int odds = 0; odds <= 10; odds++) {
                world(x, 11, 40, 0, 30, odds);
            }
            Edges.due("0: never", x.world(11, 40, 0, 30, 0, 1), 0);
            for (int odds : new int[] {11, -1, Edges.MIN, Edges.MAX}) {
                Edges.due("ODDS " + odds, x.world(0, 1, 0, 0, odds, 0), NONE);
            }
        });
        Edges.edge("39: what 0: MARRIAGES, 1: with sisters; NONE: others", () -> {
            ReedSheets x = withTables();
            Edges.due("MARRIAGES", x.world(3, 20, 0, 5, 7, 0), 27);
            Edges.due("with sisters", x.world(3, 20, 0, 5, 7, 1), 12);
            for (int what : new int[] {2, -1, Edges.MIN, Edges.MAX}) {
                Edges.due("what " + what, x.world(3, 20, 0, 5, 7, what), NONE);
            }
        });
        Edges.edge("39: none is alive, none marries", () -> {
            ReedSheets x = new ReedSheets();
            for (int k = 0; k <= 16; k++) {
                x.table(0, k, 0);
            }
            Edges.due("MARRIAGES", x.world(3, 40, 0, 30, 10, 0), 0);
            Edges.due("with sisters", x.world(3, 40, 0, 30, 10, 1), 0);
        });
        Edges.edge("39: a WORLD leaves nothing behind", () -> {
            ReedSheets x = withTables();
            int first = x.world(40, 30, 1, 6, 6, 0);
            x.world(41, 40, 0, 30, 10, 1);
            Edges.due("once more", x.world(40, 30, 1, 6, 6, 0), first);
            world(x, 40, 30, 1, 6, 6);
            Edges.due("no SHEET is told", x.count(0), 0);
        });
    }

    // ---- 40: rates

    /** Of READ MARRIAGES so many FULL ones and so many others, 6 at most. */
    private static ReedSheets withShare(int full, int others) {
        ReedSheets x = withTables();
        int[] sorts = new int[full + others];
        for (int i = full; i < sorts.length; i++) {
            sorts[i] = 1 + i % 4;
        }
        Edges.put(x, 0, 0, 0, Edges.weddings(sorts));
        return x;
    }

    private static int rates(int full, int all, int seeds, int houses, int table, int w, int odds, boolean equal) {
        int n = 0;
        for (int seed = 0; seed < seeds; seed++) {
            Told told = new Told(lives(table), Broken.NOTHING).run(seed, houses, w, odds);
            int here = told.withSisters * all;
            int there = full * told.marriages;
            n += here > there || equal && here == there ? 1 : 0;
        }
        return n;
    }

    private static void ofRates() {
        Edges.edge("40: as many as, or more", () -> {
            int asked = 0;
            for (int full = 1; full <= 3; full++) {
                for (int others = 1; others <= 3; others++) {
                    ReedSheets x = withShare(full, others);
                    for (int houses = 1; houses <= 12; houses++) {
                        int want = rates(full, full + others, 20, houses, 0, 30, 7, true);
                        asked += want == rates(full, full + others, 20, houses, 0, 30, 7, false) ? 0 : 1;
                        Edges.due("rates " + full + " of " + (full + others), x.rates(20, houses, 0, 30, 7), want);
                    }
                }
            }
            Edges.due("some are as many", asked > 20, true);
        });
        Edges.edge("40: s SEEDS 1 to 20, from 0 up to it, without that one", () -> {
            ReedSheets x = withShare(1, 2);
            boolean[] more = new boolean[21];
            for (int seeds = 1; seeds <= 20; seeds++) {
                int want = rates(1, 3, seeds, 4, 0, 6, 6, true);
                more[seeds] = want > rates(1, 3, seeds - 1, 4, 0, 6, 6, true);
                Edges.due("SEEDS " + seeds, x.rates(seeds, 4, 0, 6, 6), want);
            }
            int n = 0;
            for (boolean so : more) {
                n += so ? 1 : 0;
            }
            Edges.due("some count, some do not", n > 3 && n < 17, true);
            for (int seeds : new int[] {0, 21, -1, Edges.MIN, Edges.MAX}) {
                Edges.due("SEEDS " + seeds, x.rates(seeds, 4, 0, 6, 6), NONE);
            }
        });
        Edges.edge("40: FULL ones of all READ MARRIAGES, no other SORT", () -> {
            ReedSheets x = withTables();
            Edges.put(x, 0, 0, 0, Edges.weddings(2, 3, 1, 4));
            Edges.due("no FULL one: each WORLD", x.rates(20, 40, 0, 0, 0), 20);
            Edges.put(x, 1, 5, 7, Edges.weddings(0));
            Edges.due("1 of 5: none with sisters", x.rates(20, 40, 0, 0, 0), 0);
            x.side(5, 1);
            Edges.due("on either SIDE", x.rates(20, 40, 0, 0, 0), 0);
            Edges.due("1 of 5", x.rates(20, 9, 0, 5, 6), rates(1, 5, 20, 9, 0, 5, 6, true));
            x.sheet(2, 0, 0);
            Edges.due("those not READ do not count", x.rates(20, 9, 0, 5, 6), rates(1, 5, 20, 9, 0, 5, 6, true));
        });
        Edges.edge("40: a WORLD without MARRIAGES is one of them", () -> {
            ReedSheets x = withShare(3, 0);
            for (int k = 0; k <= 16; k++) {
                x.table(0, k, 0);
            }
            Edges.due("rates", x.rates(20, 40, 0, 30, 10), 20);
        });
        Edges.edge("40: NONE: no READ MARRIAGE", () -> {
            ReedSheets x = withTables();
            Edges.due("no SHEET", x.rates(1, 1, 0, 0, 0), NONE);
            x.sheet(0, 0, 0);
            Edges.due("not READ", x.rates(1, 1, 0, 0, 0), NONE);
            Edges.read(x, 0, "man a 7;woman b 7 sister a;");
            Edges.due("no MARRIAGE", x.rates(1, 1, 0, 0, 0), NONE);
            Edges.read(x, 0, Edges.NO_ONE);
            Edges.due("one", x.rates(1, 1, 0, 0, 0), 1);
            x.forget(0);
            Edges.due("forgotten", x.rates(1, 1, 0, 0, 0), NONE);
        });
        Edges.edge("40: NONE: others", () -> {
            ReedSheets x = withShare(1, 1);
            int[][] others = {{0, 0, 0, 0}, {41, 0, 0, 0}, {-1, 0, 0, 0}, {1, 4, 0, 0}, {1, -1, 0, 0}, {1, 0, 31, 0}, {1, 0, -1, 0},
                {1, 0, 0, 11}, {1, 0, 0, -1}, {Edges.MAX, 0, 0, 0}, {1, Edges.MAX, 0, 0}, {1, Edges.MIN, 0, 0},
                {1, 0, Edges.MAX, 0}, {1, 0, Edges.MIN, 0}, {1, 0, 0, Edges.MAX}, {1, 0, 0, Edges.MIN}};
            for (int i = 0; i < others.length; i++) {
                int[] o = others[i];
                Edges.due("others " + i, x.rates(20, o[0], o[1], o[2], o[3]), NONE);
            }
            Edges.due("the greatest", x.rates(20, 40, 3, 30, 10), rates(1, 2, 20, 40, 3, 30, 10, true));
        });
    }

    public static void main(String[] args) {
        ofTelling();
        ofWorlds();
        ofRates();
        Edges.end();
    }
}
