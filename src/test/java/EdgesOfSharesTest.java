/** The edges of promises 10 to 18: KIN, SORTS, MARRIAGES, SHARE, MOVE, LEAN, BOUNDS, NEXT. */
public final class EdgesOfSharesTest {
    private static final int NONE = Edges.NONE;
    private static final int[] NO_SHEETS = {2, 23, 24, -1, Edges.MIN, Edges.MAX};

    // ---- 10: kin

    private static void kin(String he, String she, int want) {
        ReedSheets x = Edges.with("man a 1" + he + ";woman b 1" + she + ";");
        Edges.due("kin of" + he + " and" + she, x.kin(0, 0, 1), want);
        Edges.due("the other way round", x.kin(0, 1, 0), want);
    }

    private static void ofKin() {
        Edges.edge("10: FULL if both have a father and a mother, the same NAMES", () -> {
            kin(" father f mother g", " father f mother g", 2);
            kin(" mother g father f", " father f mother g", 2);
            kin(" father f mother f", " father f mother f", 2);
        });
        Edges.edge("10: FULL not without a father or a mother", () -> {
            kin(" father f", " father f", 1);
            kin(" mother g", " mother g", 1);
            kin("", "", 0);
        });
        Edges.edge("10: HALF if both have a father, the same", () -> {
            kin(" father f mother g", " father f mother h", 1);
            kin(" father f mother g", " father f", 1);
            kin(" father f", " father f mother g", 1);
        });
        Edges.edge("10: HALF if both have a mother, the same", () -> {
            kin(" father f mother g", " father h mother g", 1);
            kin(" father f mother g", " mother g", 1);
            kin(" mother g", " father f mother g", 1);
        });
        Edges.edge("10: neither", () -> {
            kin(" father f mother g", " father h mother i", 0);
            kin(" father f mother g", "", 0);
            kin("", " father f mother g", 0);
            kin(" father f", " mother f", 0);
            kin(" father f", " mother g", 0);
            kin(" father f mother g", " father g mother f", 0);
            kin(" father b", " father a", 0);
        });
        Edges.edge("10: the one's father is not the other's kin", () -> kin(" father b mother b", " father c mother d", 0));
        Edges.edge("10: NONE: the same", () -> {
            ReedSheets x = Edges.with(Edges.FULL_ONE);
            Edges.due("0 and 0", x.kin(0, 0, 0), NONE);
            Edges.due("1 and 1", x.kin(0, 1, 1), NONE);
        });
        Edges.edge("10: NONE: none such", () -> {
            ReedSheets x = Edges.with(Edges.FULL_ONE);
            for (int line : new int[] {2, 11, 12, -1, Edges.MIN, Edges.MAX}) {
                Edges.due("0 and " + line, x.kin(0, 0, line), NONE);
                Edges.due(line + " and 1", x.kin(0, line, 1), NONE);
                Edges.due(line + " and " + line, x.kin(0, line, line), NONE);
            }
            x.sheet(2, 0, 0);
            for (int s : NO_SHEETS) {
                Edges.due("SHEET " + s, x.kin(s, 0, 1), NONE);
            }
            x.forget(0);
            Edges.due("forgotten", x.kin(0, 0, 1), NONE);
        });
    }

    // ---- 11: sort

    private static void sort(String he, String she, int want) {
        ReedSheets x = Edges.with("man z 1;man a 1" + he + ";woman b 1 wife a" + she + ";");
        Edges.due("sort of" + he + " and" + she, x.sort(0, 2), want);
        for (int sort = 0; sort < 5; sort++) {
            Edges.due("counted", x.marriages(0, 0, sort), sort == want ? 1 : 0);
        }
    }

    private static void ofSorts() {
        Edges.edge("11: 0 FULL, by word or broken too", () -> {
            sort(" father f mother g", " father f mother g", 0);
            sort(" father f mother g", " father f mother g sister a", 0);
            sort(" father f mother g", " father f mother g sister a broken", 0);
        });
        Edges.edge("11: 1 HALF, by word or broken too", () -> {
            sort(" father f", " father f", 1);
            sort(" mother f", " mother f sister a", 1);
            sort(" father f mother g", " father f mother h sister a broken", 1);
        });
        Edges.edge("11: 2 CALLED: neither; she is his sister by word, not broken", () -> {
            sort("", " sister a", 2);
            sort(" father f mother g", " sister a", 2);
            sort(" father f", " mother f sister a", 2);
        });
        Edges.edge("11: 3 BROKEN: likewise, broken", () -> {
            sort("", " sister a broken", 3);
            sort(" father f mother g", " father h mother i sister a broken", 3);
        });
        Edges.edge("11: 4 none: no word, or another one's sister by word", () -> {
            sort("", "", 4);
            sort("", " sister z", 4);
            sort("", " sister z broken", 4);
            sort(" father f mother g", " father h mother i", 4);
        });
        Edges.edge("11: NONE: no wife", () -> {
            ReedSheets x = Edges.with("man a 1;woman b 1 wife a;woman c 1 sister a;");
            Edges.due("the man", x.sort(0, 0), NONE);
            Edges.due("hers", x.sort(0, 1), 4);
            Edges.due("a woman who is no wife", x.sort(0, 2), NONE);
        });
        Edges.edge("11: NONE: none such", () -> {
            ReedSheets x = Edges.with("man a 1;woman b 1 wife a;");
            for (int line : new int[] {2, 11, 12, -1, Edges.MIN, Edges.MAX}) {
                Edges.due("line " + line, x.sort(0, line), NONE);
            }
            x.sheet(2, 0, 0);
            for (int s : NO_SHEETS) {
                Edges.due("SHEET " + s, x.sort(s, 1), NONE);
            }
        });
    }

    // ---- 12: marriages

    /** SORTS 0 and 1 in VILLAGE 0 and COUNT 0; 1, 2, 3, 4 in VILLAGE 5, COUNT 7, on SIDE 1. */
    private static ReedSheets twoScopes() {
        ReedSheets x = Edges.with(Edges.weddings(0, 1));
        Edges.put(x, 23, 5, 7, Edges.weddings(1, 2, 3, 4));
        x.side(5, 1);
        return x;
    }

    private static void ofMarriages() {
        Edges.edge("12: of all, SORT NONE, and of each SORT", () -> {
            ReedSheets x = twoScopes();
            int[] want = {6, 1, 2, 1, 1, 1};
            for (int sort = NONE; sort < 5; sort++) {
                Edges.due("SORT " + sort, x.marriages(0, 0, sort), want[sort + 1]);
            }
            for (int sort : new int[] {5, -2, Edges.MIN, Edges.MAX}) {
                Edges.due("SORT " + sort, x.marriages(0, 0, sort), NONE);
                Edges.due("SORT " + sort, x.marriages(1, 0, sort), NONE);
            }
        });
        Edges.edge("12: of SCOPE 0 which is not asked", () -> {
            ReedSheets x = twoScopes();
            for (int which : new int[] {-1, 6, 99, Edges.MIN, Edges.MAX}) {
                Edges.due("which " + which, x.marriages(0, which, NONE), 6);
                Edges.dueFraction("share", x.share(0, which, 0, 0), x.share(0, which, 0, 1), 1, 6);
            }
        });
        Edges.edge("12: SCOPES 0 to 3", () -> {
            ReedSheets x = twoScopes();
            for (int scope = 0; scope < 4; scope++) {
                Edges.due("scope " + scope, x.marriages(scope, 0, NONE), scope == 0 ? 6 : 2);
            }
            for (int scope : new int[] {4, -1, Edges.MIN, Edges.MAX}) {
                Edges.due("scope " + scope, x.marriages(scope, 0, NONE), NONE);
            }
        });
        Edges.edge("12: 1 of a VILLAGE, 0 to 5", () -> {
            ReedSheets x = twoScopes();
            int[] want = {2, 0, 0, 0, 0, 4};
            for (int which = 0; which < 6; which++) {
                Edges.due("VILLAGE " + which, x.marriages(1, which, NONE), want[which]);
            }
            for (int which : new int[] {6, -1, Edges.MIN, Edges.MAX}) {
                Edges.due("VILLAGE " + which, x.marriages(1, which, NONE), NONE);
            }
        });
        Edges.edge("12: 2 of a COUNT, 0 to 7", () -> {
            ReedSheets x = twoScopes();
            int[] want = {2, 0, 0, 0, 0, 0, 0, 4};
            for (int which = 0; which < 8; which++) {
                Edges.due("COUNT " + which, x.marriages(2, which, NONE), want[which]);
            }
            for (int which : new int[] {8, -1, Edges.MIN, Edges.MAX}) {
                Edges.due("COUNT " + which, x.marriages(2, which, NONE), NONE);
            }
        });
        Edges.edge("12: 3 of a SIDE, 0 or 1", () -> {
            ReedSheets x = twoScopes();
            Edges.due("SIDE 0", x.marriages(3, 0, NONE), 2);
            Edges.due("SIDE 1", x.marriages(3, 1, NONE), 4);
            for (int which : new int[] {2, -1, Edges.MIN, Edges.MAX}) {
                Edges.due("SIDE " + which, x.marriages(3, which, NONE), NONE);
            }
        });
        Edges.edge("12: of READ SHEETS alone", () -> {
            ReedSheets x = twoScopes();
            x.sheet(1, 0, 0);
            Edges.due("of one not READ", x.marriages(1, 0, NONE), 2);
            x.forget(0);
            Edges.due("forgotten", x.marriages(1, 0, NONE), 0);
            Edges.due("the other one", x.marriages(0, 0, NONE), 4);
        });
        Edges.edge("12: MARRIAGES are LINES with wife", () -> {
            ReedSheets x = Edges.with("man a 1;woman b 1 sister a;woman c 1;man d 1;");
            Edges.due("none", x.marriages(0, 0, NONE), 0);
        });
        Edges.edge("12: all that can be: 24 SHEETS of 6", () -> {
            ReedSheets x = new ReedSheets();
            for (int s = 0; s < 24; s++) {
                Edges.put(x, s, s / 4, s % 8, Edges.weddings(4, 4, 4, 4, 4, 4));
            }
            Edges.due("all", x.marriages(0, 0, NONE), 144);
            Edges.due("of a VILLAGE", x.marriages(1, 5, 4), 24);
            Edges.due("of a COUNT", x.marriages(2, 7, 4), 18);
            Edges.due("LINES", x.count(2), 288);
            Edges.dueFraction("share", x.share(0, 0, 2, 0), x.share(0, 0, 2, 1), 0, 1);
        });
    }

    // ---- 13: share

    private static void ofShares() {
        Edges.edge("13: how 0: SORT 0, 1: 0 and 2, 2: 0, 2 and 3", () -> {
            ReedSheets x = Edges.with(Edges.weddings(0, 1, 2, 3, 4, 4));
            Edges.put(x, 1, 0, 0, Edges.weddings(4));
            for (int how = 0; how < 3; how++) {
                Edges.dueFraction("how " + how, x.share(0, 0, how, 0), x.share(0, 0, how, 1), how + 1, 7);
            }
            for (int how : new int[] {3, -1, Edges.MIN, Edges.MAX}) {
                Edges.due("how " + how, x.share(0, 0, how, 0), NONE);
                Edges.due("how " + how, x.share(0, 0, how, 1), NONE);
            }
        });
        Edges.edge("13: what 0: above, 1: below", () -> {
            ReedSheets x = Edges.with(Edges.weddings(0, 4, 4));
            Edges.dueFraction("share", x.share(0, 0, 0, 0), x.share(0, 0, 0, 1), 1, 3);
            for (int what : new int[] {2, -1, Edges.MIN, Edges.MAX}) {
                Edges.due("what " + what, x.share(0, 0, 0, what), NONE);
            }
        });
        Edges.edge("13: in lowest terms", () -> {
            int[][] sorts = {{0, 0, 4, 4}, {0, 0, 0, 4, 4, 4}, {0, 0, 4, 4, 4, 4}, {0, 0, 0, 0, 4, 4}};
            int[][] want = {{1, 2}, {1, 2}, {1, 3}, {2, 3}};
            for (int i = 0; i < sorts.length; i++) {
                ReedSheets x = Edges.with(Edges.weddings(sorts[i]));
                Edges.dueFraction("share", x.share(0, 0, 0, 0), x.share(0, 0, 0, 1), want[i][0], want[i][1]);
            }
        });
        Edges.edge("13: none of them is 0 / 1, all of them 1 / 1", () -> {
            ReedSheets x = Edges.with(Edges.weddings(4, 4, 4));
            Edges.dueFraction("none", x.share(0, 0, 2, 0), x.share(0, 0, 2, 1), 0, 1);
            ReedSheets y = Edges.with(Edges.weddings(0, 0, 0));
            Edges.dueFraction("all", y.share(0, 0, 0, 0), y.share(0, 0, 0, 1), 1, 1);
        });
        Edges.edge("13: NONE: none without any MARRIAGE", () -> {
            ReedSheets x = twoScopes();
            Edges.put(x, 1, 1, 1, "man a 1;woman b 1;");
            Edges.due("a VILLAGE with LINES", x.share(1, 1, 0, 0), NONE);
            Edges.due("below", x.share(1, 1, 0, 1), NONE);
            Edges.due("a VILLAGE without a SHEET", x.share(1, 2, 0, 0), NONE);
            Edges.due("a COUNT", x.share(2, 1, 0, 0), NONE);
            x.forget(23);
            Edges.due("a SIDE", x.share(3, 1, 0, 0), NONE);
            x.forget(0);
            Edges.due("of all", x.share(0, 0, 0, 0), NONE);
            Edges.due("of all, below", x.share(0, 0, 0, 1), NONE);
        });
        Edges.edge("13: NONE: others, SCOPE and which", () -> {
            ReedSheets x = twoScopes();
            int[][] others = {{4, 0}, {-1, 0}, {1, 6}, {1, -1}, {2, 8}, {2, -1}, {3, 2}, {3, -1}, {Edges.MAX, 0}, {Edges.MIN, 0}};
            for (int[] o : others) {
                Edges.due("scope " + o[0] + " " + o[1], x.share(o[0], o[1], 0, 0), NONE);
                Edges.due("scope " + o[0] + " " + o[1], x.share(o[0], o[1], 0, 1), NONE);
            }
            Edges.dueFraction("VILLAGE 5", x.share(1, 5, 1, 0), x.share(1, 5, 1, 1), 1, 4);
            Edges.dueFraction("COUNT 7", x.share(2, 7, 2, 0), x.share(2, 7, 2, 1), 1, 2);
            Edges.dueFraction("SIDE 1", x.share(3, 1, 0, 0), x.share(3, 1, 0, 1), 0, 1);
        });
    }

    private static void ofTakenOnes() {
        String taken = "man a 7 father f mother g taken;woman b 7 wife a father f mother g;man c 7 taken;woman d 7 wife c sister c;";
        Edges.edge("12 to 18, 40: one who was TAKEN IN counts as any other one", () -> {
            ReedSheets x = Edges.with(taken);
            Edges.put(x, 1, 1, 0, Edges.weddings(0, 2, 3, 4));
            x.side(1, 1);
            Edges.due("all", x.marriages(0, 0, NONE), 6);
            Edges.due("SORT 0", x.marriages(0, 0, 0), 2);
            Edges.due("SORT 2", x.marriages(0, 0, 2), 2);
            Edges.dueFraction("SHARE", x.share(0, 0, 0, 0), x.share(0, 0, 0, 1), 1, 3);
            Edges.dueFraction("SHARE with 2", x.share(0, 0, 1, 0), x.share(0, 0, 1, 1), 2, 3);
            Edges.dueFraction("SHARE of SIDE 0", x.share(3, 0, 0, 0), x.share(3, 0, 0, 1), 1, 2);
            Edges.dueFraction("MOVE of 0", x.move(0, 0), x.move(0, 1), -1, 12);
            Edges.dueFraction("MOVE of 1", x.move(1, 0), x.move(1, 1), 1, 6);
            Edges.dueFraction("LEAN", x.lean(0), x.lean(1), 1, 4);
            x.side(0, 1);
            x.side(1, 0);
            Edges.dueFraction("LEAN the other way", x.lean(0), x.lean(1), -1, 4);
            x.sheet(2, 0, 0);
            Edges.dueFraction("least", x.bounds(0), x.bounds(1), 1, 4);
            Edges.dueFraction("greatest", x.bounds(2), x.bounds(3), 1, 2);
        });
        Edges.edge("18: one who was TAKEN IN counts for his VILLAGE", () -> {
            ReedSheets x = Edges.with(taken);
            Edges.put(x, 1, 1, 0, Edges.weddings(4));
            x.sheet(2, 0, 0);
            x.sheet(3, 1, 0);
            Edges.due("1, not 2 MARRIAGES", x.next(), 3);
        });
        Edges.edge("40: one who was TAKEN IN counts among the READ MARRIAGES", () -> {
            ReedSheets x = Edges.with("man a 7 father f mother g taken;woman b 7 wife a father f mother g;");
            // 1 of 1: no WORLD but one without MARRIAGES
            Edges.due("rates", x.rates(20, 40, 0, 0, 0), 0);
            Edges.put(x, 0, 0, 0, taken + "man h 7;woman i 7 wife h;");
            Edges.put(x, 1, 0, 0, Edges.weddings(4));
            int n = 0;
            for (int seed = 0; seed < 20; seed++) {
                n += 4 * x.world(seed, 2, 0, 30, 6, 1) >= x.world(seed, 2, 0, 30, 6, 0) ? 1 : 0;
            }
            Edges.due("1 of 4", x.rates(20, 2, 0, 30, 6), n);
        });
    }

    // ---- 14: move

    private static void ofMoves() {
        Edges.edge("14: SHARE without it, less with it: above may be below 0", () -> {
            ReedSheets x = Edges.with(Edges.weddings(0, 0));
            Edges.put(x, 1, 0, 0, Edges.weddings(4));
            // with both 2 / 3; without 0: 0; without 1: 1
            Edges.dueFraction("MOVE of 0", x.move(0, 0), x.move(0, 1), -2, 3);
            Edges.dueFraction("MOVE of 1", x.move(1, 0), x.move(1, 1), 1, 3);
        });
        Edges.edge("14: in lowest terms, below 0, too", () -> {
            ReedSheets x = Edges.with(Edges.weddings(0, 0));
            Edges.put(x, 1, 0, 0, Edges.weddings(4, 4));
            Edges.dueFraction("MOVE of 0", x.move(0, 0), x.move(0, 1), -1, 2);
            Edges.dueFraction("MOVE of 1", x.move(1, 0), x.move(1, 1), 1, 2);
        });
        Edges.edge("14: SHARE of SORT 0", () -> {
            ReedSheets x = Edges.with(Edges.weddings(0, 2, 3));
            Edges.put(x, 1, 0, 0, Edges.weddings(2));
            // with both 1 / 4, without 1: 1 / 3
            Edges.dueFraction("MOVE of 1", x.move(1, 0), x.move(1, 1), 1, 12);
        });
        Edges.edge("14: of all, not of a SIDE or a VILLAGE", () -> {
            ReedSheets x = Edges.with(Edges.weddings(0));
            Edges.put(x, 1, 3, 3, Edges.weddings(4));
            x.side(3, 1);
            Edges.dueFraction("MOVE of 0", x.move(0, 0), x.move(0, 1), -1, 2);
        });
        Edges.edge("14: a MOVE by nought is 0 / 1", () -> {
            ReedSheets x = Edges.with(Edges.weddings(0, 4));
            Edges.put(x, 1, 0, 0, Edges.weddings(0, 4));
            Edges.put(x, 2, 0, 0, "man a 1;");
            Edges.put(x, 3, 0, 0, "");
            for (int s = 0; s < 4; s++) {
                Edges.dueFraction("MOVE of " + s, x.move(s, 0), x.move(s, 1), 0, 1);
            }
        });
        Edges.edge("14: NoSuchElementException: no SHARE without it", () -> {
            ReedSheets x = Edges.with(Edges.weddings(0, 4));
            Edges.put(x, 1, 0, 0, "man a 1;");
            Edges.throwsNoSuch("the only one with MARRIAGES", () -> x.move(0, 0));
            Edges.throwsNoSuch("the only one with MARRIAGES", () -> x.move(0, 1));
            Edges.dueFraction("the other one", x.move(1, 0), x.move(1, 1), 0, 1);
        });
        Edges.edge("14: NoSuchElementException: no SHARE with it", () -> {
            ReedSheets x = Edges.with("man a 1;");
            Edges.put(x, 1, 0, 0, "man a 1;");
            Edges.throwsNoSuch("above", () -> x.move(0, 0));
            Edges.throwsNoSuch("below", () -> x.move(1, 1));
        });
        Edges.edge("14: NoSuchElementException: not READ, others", () -> {
            ReedSheets x = Edges.with(Edges.weddings(0));
            Edges.put(x, 1, 0, 0, Edges.weddings(4));
            x.sheet(2, 0, 0);
            for (int s : NO_SHEETS) {
                Edges.throwsNoSuch("SHEET " + s, () -> x.move(s, 0));
            }
            for (int what : new int[] {2, -1, Edges.MIN, Edges.MAX}) {
                Edges.throwsNoSuch("what " + what, () -> x.move(0, what));
            }
            Edges.dueFraction("what 0 and 1", x.move(0, 0), x.move(0, 1), -1, 2);
        });
    }

    // ---- 15: mover

    private static void ofMovers() {
        Edges.edge("15: the most, either way", () -> {
            ReedSheets x = Edges.with(Edges.weddings(4));
            Edges.put(x, 1, 0, 0, Edges.weddings(0, 0));
            Edges.put(x, 2, 0, 0, Edges.weddings(4));
            // with all 1 / 2; without 0, 2: 2 / 3; without 1: 0
            Edges.due("below 0", x.mover(), 1);
            ReedSheets y = Edges.with(Edges.weddings(0));
            Edges.put(y, 1, 0, 0, Edges.weddings(4, 4));
            Edges.put(y, 2, 0, 0, Edges.weddings(0));
            Edges.due("above 0", y.mover(), 1);
        });
        Edges.edge("15: of equal ones the first", () -> {
            ReedSheets x = new ReedSheets();
            Edges.put(x, 9, 0, 0, Edges.weddings(0));
            Edges.put(x, 4, 0, 0, Edges.weddings(4));
            Edges.due("the one below, the other above 0", x.mover(), 4);
            Edges.put(x, 2, 0, 0, Edges.weddings(0, 4));
            // with all 1 / 2; without 9: 1 / 3; without 4: 2 / 3; without 2: 1 / 2
            Edges.due("one that moves by nought is ahead", x.mover(), 4);
        });
        Edges.edge("15: one that moves by nought, if no other does", () -> {
            ReedSheets x = new ReedSheets();
            Edges.put(x, 23, 0, 0, Edges.weddings(0));
            Edges.due("none does have a MOVE", x.mover(), NONE);
            Edges.put(x, 5, 0, 0, "man a 1;");
            Edges.due("by nought", x.mover(), 5);
        });
        Edges.edge("15: NONE: none does have a MOVE", () -> {
            ReedSheets x = new ReedSheets();
            Edges.due("no SHEET", x.mover(), NONE);
            x.sheet(0, 0, 0);
            Edges.due("none READ", x.mover(), NONE);
            Edges.read(x, 0, "man a 1;");
            Edges.due("no MARRIAGE", x.mover(), NONE);
            Edges.read(x, 0, Edges.FULL_ONE);
            Edges.due("the only one", x.mover(), NONE);
        });
        Edges.edge("15: of all READ SHEETS, of any VILLAGE, COUNT and SIDE", () -> {
            ReedSheets x = new ReedSheets();
            x.side(5, 1);
            Edges.put(x, 7, 5, 7, Edges.weddings(4));
            Edges.due("the only one", x.mover(), NONE);
            Edges.put(x, 9, 4, 6, Edges.weddings(0, 0));
            // with both 2 of 3; without 7: 1; without 9: 0
            Edges.due("two", x.mover(), 9);
        });
        Edges.edge("15: SHEETS 0 and 23", () -> {
            ReedSheets x = Edges.with(Edges.weddings(0, 4));
            Edges.put(x, 23, 0, 0, Edges.weddings(0, 0, 0));
            Edges.put(x, 12, 0, 0, Edges.weddings(0));
            // with all 5 / 6; without 0: 1; without 12: 4 / 5; without 23: 2 / 3
            Edges.due("0 by 1 / 6, 23 as far: the first", x.mover(), 0);
            Edges.put(x, 23, 0, 0, Edges.weddings(4, 4, 4));
            // with all 2 / 6; without 0: 1 / 4; without 12: 1 / 5; without 23: 2 / 3
            Edges.due("the last one", x.mover(), 23);
        });
    }

    // ---- 16: lean

    private static void ofLeans() {
        Edges.edge("16: SHARE of SIDE 0 less that of SIDE 1: above may be below 0", () -> {
            ReedSheets x = Edges.with(Edges.weddings(0, 4));
            Edges.put(x, 1, 1, 0, Edges.weddings(0, 4, 4));
            x.side(1, 1);
            Edges.dueFraction("1 / 2 less 1 / 3", x.lean(0), x.lean(1), 1, 6);
            x.side(0, 1);
            x.side(1, 0);
            Edges.dueFraction("1 / 3 less 1 / 2", x.lean(0), x.lean(1), -1, 6);
        });
        Edges.edge("16: in lowest terms, nought too", () -> {
            ReedSheets x = Edges.with(Edges.weddings(0, 4));
            Edges.put(x, 1, 1, 0, Edges.weddings(0, 0, 4, 4));
            x.side(1, 1);
            Edges.dueFraction("nought", x.lean(0), x.lean(1), 0, 1);
            Edges.put(x, 1, 1, 0, Edges.weddings(4, 4));
            Edges.dueFraction("1 / 2 less 0", x.lean(0), x.lean(1), 1, 2);
        });
        Edges.edge("16: in lowest terms, below 0, too", () -> {
            ReedSheets x = Edges.with(Edges.weddings(4, 4));
            Edges.put(x, 1, 1, 0, Edges.weddings(0, 4));
            x.side(1, 1);
            Edges.dueFraction("0 less 1 / 2", x.lean(0), x.lean(1), -1, 2);
        });
        Edges.edge("16: of SORT 0 alone", () -> {
            ReedSheets x = Edges.with(Edges.weddings(0, 2));
            Edges.put(x, 1, 1, 0, Edges.weddings(2, 3));
            x.side(1, 1);
            Edges.dueFraction("1 / 2 less 0", x.lean(0), x.lean(1), 1, 2);
        });
        Edges.edge("16: NoSuchElementException: none", () -> {
            ReedSheets x = new ReedSheets();
            Edges.throwsNoSuch("none at all", () -> x.lean(0));
            Edges.put(x, 0, 0, 0, Edges.weddings(0));
            Edges.throwsNoSuch("none of SIDE 1", () -> x.lean(0));
            Edges.put(x, 1, 1, 0, "man a 1;");
            x.side(1, 1);
            Edges.throwsNoSuch("no MARRIAGE of SIDE 1", () -> x.lean(1));
            x.side(0, 1);
            Edges.throwsNoSuch("none of SIDE 0", () -> x.lean(0));
        });
        Edges.edge("16: NoSuchElementException: another what", () -> {
            ReedSheets x = Edges.with(Edges.weddings(0));
            Edges.put(x, 1, 1, 0, Edges.weddings(4));
            x.side(1, 1);
            Edges.dueFraction("1 less 0", x.lean(0), x.lean(1), 1, 1);
            for (int what : new int[] {2, -1, Edges.MIN, Edges.MAX}) {
                Edges.throwsNoSuch("what " + what, () -> x.lean(what));
            }
        });
    }

    // ---- 17: bounds

    private static void ofBounds() {
        Edges.edge("17: what 0, 1: the least, 2, 3: the greatest", () -> {
            ReedSheets x = Edges.with(Edges.weddings(0, 0, 4));
            x.sheet(1, 0, 0);
            Edges.dueFraction("2 of 5", x.bounds(0), x.bounds(1), 2, 5);
            Edges.dueFraction("4 of 5", x.bounds(2), x.bounds(3), 4, 5);
            for (int what : new int[] {4, -1, -2, Edges.MIN, Edges.MAX}) {
                Edges.due("what " + what, x.bounds(what), NONE);
            }
        });
        Edges.edge("17: in lowest terms", () -> {
            ReedSheets x = Edges.with(Edges.weddings(0, 4));
            x.sheet(1, 0, 0);
            Edges.dueFraction("1 of 4", x.bounds(0), x.bounds(1), 1, 4);
            Edges.dueFraction("3 of 4", x.bounds(2), x.bounds(3), 3, 4);
            x.sheet(2, 0, 0);
            Edges.dueFraction("1 of 6", x.bounds(0), x.bounds(1), 1, 6);
            Edges.dueFraction("5 of 6", x.bounds(2), x.bounds(3), 5, 6);
            x.may(2, 4);
            Edges.dueFraction("7 of 8", x.bounds(2), x.bounds(3), 7, 8);
            Edges.put(x, 3, 0, 0, Edges.weddings(0));
            x.may(2, 1);
            Edges.dueFraction("2 of 6", x.bounds(0), x.bounds(1), 1, 3);
        });
        Edges.edge("17: all READ: both are the SHARE", () -> {
            ReedSheets x = Edges.with(Edges.weddings(0, 2, 3));
            Edges.dueFraction("least", x.bounds(0), x.bounds(1), 1, 3);
            Edges.dueFraction("greatest", x.bounds(2), x.bounds(3), 1, 3);
        });
        Edges.edge("17: of all VILLAGES, COUNTS and SIDES", () -> {
            ReedSheets x = new ReedSheets();
            x.side(5, 1);
            Edges.put(x, 0, 5, 7, Edges.weddings(0, 4));
            Edges.put(x, 1, 3, 3, Edges.weddings(4));
            x.sheet(2, 4, 6);
            x.sheet(3, 5, 1);
            Edges.dueFraction("1 of 7", x.bounds(0), x.bounds(1), 1, 7);
            Edges.dueFraction("5 of 7", x.bounds(2), x.bounds(3), 5, 7);
        });
        Edges.edge("17: none READ: from 0 to 1", () -> {
            ReedSheets x = new ReedSheets();
            x.sheet(0, 0, 0);
            x.may(0, 20);
            Edges.dueFraction("least", x.bounds(0), x.bounds(1), 0, 1);
            Edges.dueFraction("greatest", x.bounds(2), x.bounds(3), 1, 1);
        });
        Edges.edge("17: NONE: no MARRIAGE at all", () -> {
            ReedSheets x = new ReedSheets();
            for (int what = 0; what < 4; what++) {
                Edges.due("no SHEET", x.bounds(what), NONE);
            }
            Edges.put(x, 0, 0, 0, "man a 1;");
            Edges.due("none on the one READ", x.bounds(0), NONE);
            x.sheet(1, 0, 0);
            x.may(1, 0);
            for (int what = 0; what < 4; what++) {
                Edges.due("none that may be", x.bounds(what), NONE);
            }
            x.may(1, 1);
            Edges.dueFraction("one that may be", x.bounds(2), x.bounds(3), 1, 1);
        });
        Edges.edge("17: all that can be: 24 SHEETS that may have 20", () -> {
            ReedSheets x = new ReedSheets();
            for (int s = 0; s < 24; s++) {
                x.sheet(s, 0, 0);
                x.may(s, 20);
            }
            Edges.read(x, 0, Edges.weddings(0));
            Edges.dueFraction("least", x.bounds(0), x.bounds(1), 1, 461);
            Edges.dueFraction("greatest", x.bounds(2), x.bounds(3), 1, 1);
        });
    }

    // ---- 18: next

    private static void ofNext() {
        Edges.edge("18: the one not READ that may have most", () -> {
            ReedSheets x = new ReedSheets();
            for (int s = 0; s < 24; s++) {
                x.sheet(s, s % 6, 0);
            }
            x.may(23, 3);
            Edges.due("the last one", x.next(), 23);
            x.may(0, 4);
            Edges.due("the first one", x.next(), 0);
            x.may(11, 20);
            Edges.due("20", x.next(), 11);
            Edges.read(x, 11, "");
            Edges.due("READ", x.next(), 0);
        });
        Edges.edge("18: of equal ones that of the VILLAGE with the fewest MARRIAGES", () -> {
            ReedSheets x = Edges.with(Edges.weddings(4, 4));
            Edges.put(x, 1, 1, 0, Edges.weddings(4));
            x.sheet(2, 0, 0);
            x.sheet(3, 1, 0);
            Edges.due("1, not 2 MARRIAGES", x.next(), 3);
            x.sheet(4, 2, 0);
            Edges.due("none", x.next(), 4);
            x.may(2, 3);
            Edges.due("the VILLAGE is asked of equal ones alone", x.next(), 2);
        });
        Edges.edge("18: MARRIAGES of READ SHEETS, of any SORT and COUNT", () -> {
            ReedSheets x = new ReedSheets();
            Edges.put(x, 0, 0, 5, Edges.weddings(4));
            Edges.put(x, 1, 1, 5, "man a 1;woman b 1;man c 1;woman d 1;");
            x.sheet(2, 0, 0);
            x.sheet(3, 1, 0);
            Edges.due("LINES are no MARRIAGES", x.next(), 3);
            x.forget(0);
            Edges.due("forgotten ones may have as many", x.next(), 0);
        });
        Edges.edge("18: as many MARRIAGES on more SHEETS are as many", () -> {
            ReedSheets x = Edges.with(Edges.weddings(4, 4));
            Edges.put(x, 1, 1, 0, Edges.weddings(4));
            Edges.put(x, 2, 1, 1, Edges.weddings(4));
            x.sheet(5, 1, 0);
            x.sheet(6, 0, 0);
            Edges.due("the first", x.next(), 5);
            x.sheet(4, 0, 0);
            Edges.due("the first", x.next(), 4);
        });
        Edges.edge("18: of the VILLAGE, not of the COUNT", () -> {
            ReedSheets x = new ReedSheets();
            Edges.put(x, 0, 1, 4, Edges.weddings(4, 4));
            Edges.put(x, 1, 2, 5, Edges.weddings(4));
            x.sheet(2, 1, 3);
            x.sheet(3, 2, 1);
            x.sheet(4, 2, 4);
            Edges.due("of VILLAGE 2", x.next(), 3);
            x.sheet(2, 3, 2);
            Edges.due("of VILLAGE 3", x.next(), 2);
        });
        Edges.edge("18: then the first", () -> {
            ReedSheets x = Edges.with(Edges.weddings(4));
            Edges.put(x, 1, 1, 0, Edges.weddings(0));
            x.sheet(9, 1, 0);
            x.sheet(7, 0, 0);
            x.sheet(8, 1, 0);
            Edges.due("VILLAGES with as many", x.next(), 7);
            x.sheet(7, 1, 0);
            Edges.due("one VILLAGE", x.next(), 7);
        });
        Edges.edge("18: one that may have 0 is not READ either", () -> {
            ReedSheets x = new ReedSheets();
            x.sheet(6, 0, 0);
            x.may(6, 0);
            Edges.due("next", x.next(), 6);
        });
        Edges.edge("18: NONE: all told are READ", () -> {
            ReedSheets x = new ReedSheets();
            Edges.due("none told", x.next(), NONE);
            Edges.put(x, 0, 0, 0, "");
            Edges.due("one READ", x.next(), NONE);
            x.forget(0);
            Edges.due("forgotten", x.next(), 0);
        });
    }

    public static void main(String[] args) {
        ofKin();
        ofSorts();
        ofMarriages();
        ofShares();
        ofTakenOnes();
        ofMoves();
        ofMovers();
        ofLeans();
        ofBounds();
        ofNext();
        Edges.end();
    }
}
