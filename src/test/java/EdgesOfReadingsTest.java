/** The edges of promises 41 to 43, 45 and 46: READINGS, what is SAID, MARKS, counts. */
public final class EdgesOfReadingsTest {
    private static final int NONE = Edges.NONE;
    private static final String FG = " father f mother g";
    /** Those TAKEN IN surely, perhaps and not of SORT 0, of SORT 2, and one of SORT 3. */
    private static final String FULL_SURELY = "man a 7" + FG + " taken;woman b 7 wife a" + FG + ";";
    private static final String FULL_NOT = "man a 7" + FG + ";woman b 7 wife a" + FG + ";man c 7" + FG + ";";
    private static final String CALLED_SURELY = "man h 7 taken;woman i 7 wife h sister h;";
    private static final String CALLED_PERHAPS = "man j 7;woman k 7 wife j sister j;";
    private static final String CALLED_NOT = "man l 7;woman m 7 wife l sister l" + FG + ";";
    private static final String BROKEN_ONE = "man n 7 taken;woman o 7 wife n sister n broken;";
    private static final String HALF_ONE = "man p 7 father q;woman q 7 wife p father q;";

    private static void reading(ReedSheets x, int i, int above, int below) {
        Edges.dueFraction("reading " + i, x.reading(i, 0), x.reading(i, 1), above, below);
    }

    // ---- 41, 42: readings, reading

    private static void ofOrder() {
        Edges.edge("41: SORTS 0; 0 and 2; 0, 2 and 3: each of all, without surely, without perhaps, too", () -> {
            ReedSheets x = Edges.with(FULL_NOT + CALLED_SURELY + CALLED_PERHAPS + CALLED_NOT + BROKEN_ONE);
            // SORT 0: one of 5, of 4, of 3; with 2: 4 of 5, 3 of 4, 2 of 3; with 3: all
            int[][] want = {{1, 5}, {1, 4}, {1, 3}, {4, 5}, {3, 4}, {2, 3}, {1, 1}, {1, 1}, {1, 1}};
            Edges.due("how many", x.readings(0), 9);
            for (int i = 0; i < 9; i++) {
                reading(x, i, want[i][0], want[i][1]);
            }
        });
        Edges.edge("41: of SORT 0 those TAKEN IN are left out above, too", () -> {
            ReedSheets x = Edges.with(FULL_SURELY + HALF_ONE);
            Edges.put(x, 1, 0, 0, Edges.FULL_ONE);
            Edges.put(x, 2, 0, 0, FULL_NOT);
            reading(x, 0, 3, 4);
            reading(x, 4, 2, 3);
            reading(x, 8, 1, 2);
        });
        Edges.edge("41: all READ SHEETS first, then without one of them, by numbers", () -> {
            ReedSheets x = new ReedSheets();
            x.side(5, 1);
            Edges.put(x, 23, 5, 0, Edges.weddings(4, 4));
            Edges.put(x, 0, 0, 7, Edges.weddings(1, 1, 1));
            Edges.put(x, 9, 3, 3, FULL_NOT);
            x.sheet(5, 0, 0);
            // with all 1 of 6; without 0: 1 of 3; without 9: 0; without 23: 1 of 4; each 9 times: none is TAKEN IN
            int[][] want = {{1, 6}, {1, 3}, {0, 1}, {1, 4}};
            Edges.due("how many", x.readings(0), 36);
            for (int i = 0; i < 36; i++) {
                reading(x, i, want[i % 4][0], want[i % 4][1]);
            }
        });
        Edges.edge("41: a READ SHEET without MARRIAGES is one to leave out, too", () -> {
            ReedSheets x = Edges.with(Edges.weddings(1));
            Edges.put(x, 1, 0, 0, "");
            // with all and without 1; without 0 there is no MARRIAGE
            Edges.due("how many", x.readings(0), 18);
        });
        Edges.edge("41: those without a MARRIAGE are none", () -> {
            ReedSheets x = Edges.with(FULL_SURELY);
            // of all; not without it, and not without surely
            Edges.due("how many", x.readings(0), 3);
            for (int i = 0; i < 3; i++) {
                reading(x, i, 1, 1);
            }
            Edges.put(x, 1, 0, 0, Edges.FULL_ONE);
            // of all: both, without 0, without 1; without surely: both, without 0; without perhaps: none
            Edges.due("how many", x.readings(0), 15);
            Edges.put(x, 2, 0, 0, Edges.NO_ONE);
            // 4; both and 0, 1 of them: 2 of 2, without 0 alike, without 1 none of 1, without 2: 1 of 1; and so on
            Edges.due("how many", x.readings(0), 3 * (4 + 4 + 3));
            int[][] want = {{2, 3}, {1, 2}, {1, 2}, {1, 1}, {1, 2}, {1, 2}, {0, 1}, {1, 1}, {0, 1}, {0, 1}, {0, 1}};
            for (int i = 0; i < 33; i++) {
                reading(x, i, want[i % 11][0], want[i % 11][1]);
            }
        });
        Edges.edge("41: all that can be: 9 times 25", () -> {
            ReedSheets x = new ReedSheets();
            for (int s = 0; s < 24; s++) {
                Edges.put(x, s, s % 6, s % 8, Edges.weddings(s == 23 ? 3 : 4));
            }
            Edges.due("how many", x.readings(0), 225);
            reading(x, 0, 0, 1);
            reading(x, 149, 0, 1);
            reading(x, 150, 1, 24);
            reading(x, 151, 1, 23);
            reading(x, 223, 1, 23);
            reading(x, 224, 0, 1);
            Edges.due("225", x.reading(225, 0), NONE);
            Edges.due("the greatest", x.readings(6), 151);
            Edges.due("the least", x.readings(3), 0);
        });
    }

    private static void ofReadings() {
        Edges.edge("41: above and below of the least and of the greatest, their numbers, the first of equal ones", () -> {
            ReedSheets x = new ReedSheets();
            Edges.put(x, 3, 0, 0, Edges.weddings(1, 1));
            Edges.put(x, 4, 0, 0, FULL_NOT);
            // with all 1 / 3; without 3: 1; without 4: 0; nine times
            int[] want = {27, 0, 1, 2, 1, 1, 1};
            for (int what = 0; what <= 6; what++) {
                Edges.due("what " + what, x.readings(what), want[what]);
            }
        });
        Edges.edge("41: the least and the greatest, however near", () -> {
            ReedSheets x = Edges.with(FULL_SURELY + HALF_ONE);
            // 1 / 2, then 0
            int[] want = {9, 0, 1, 1, 1, 2, 0};
            for (int what = 0; what <= 6; what++) {
                Edges.due("what " + what, x.readings(what), want[what]);
            }
            ReedSheets y = Edges.with(Edges.weddings(3, 3, 3, 4, 4, 4));
            Edges.put(y, 1, 0, 0, Edges.weddings(3, 3, 4, 4, 4));
            Edges.put(y, 2, 0, 0, Edges.weddings(3, 4));
            // with 3: 6 / 13; without 0: 3 / 7; without 1: 4 / 8; without 2: 5 / 11
            int[] of = {36, 0, 1, 0, 1, 2, 26};
            for (int what = 0; what <= 6; what++) {
                Edges.due("what " + what, y.readings(what), of[what]);
            }
        });
        Edges.edge("41: all are equal: both are the first", () -> {
            ReedSheets x = Edges.with(FULL_NOT + HALF_ONE);
            int[] want = {9, 1, 2, 0, 1, 2, 0};
            for (int what = 0; what <= 6; what++) {
                Edges.due("what " + what, x.readings(what), want[what]);
            }
        });
        Edges.edge("41: equal ones of other MARRIAGES are equal", () -> {
            ReedSheets x = Edges.with(FULL_NOT + CALLED_SURELY + HALF_ONE + "man r 7;woman s 7 wife r;");
            // SORT 0: 1 / 4, 1 / 3, 1 / 3; with 2: 2 / 4, 1 / 3, 1 / 3; with 3: likewise
            int[] want = {9, 1, 4, 0, 1, 2, 3};
            for (int what = 0; what <= 6; what++) {
                Edges.due("what " + what, x.readings(what), want[what]);
            }
        });
        Edges.edge("41: NONE: another what, none (but 0: 0)", () -> {
            ReedSheets x = new ReedSheets();
            for (int what = 0; what <= 6; what++) {
                Edges.due("no SHEET", x.readings(what), what == 0 ? 0 : NONE);
            }
            Edges.put(x, 0, 0, 0, "man a 7;");
            for (int what = 0; what <= 6; what++) {
                Edges.due("no MARRIAGE", x.readings(what), what == 0 ? 0 : NONE);
            }
            for (int what : new int[] {7, -1, Edges.MIN, Edges.MAX}) {
                Edges.due("none, what " + what, x.readings(what), NONE);
            }
            Edges.put(x, 0, 0, 0, Edges.NO_ONE);
            for (int what : new int[] {7, -1, Edges.MIN, Edges.MAX}) {
                Edges.due("what " + what, x.readings(what), NONE);
            }
        });
        Edges.edge("42: what 0: above, 1: below; NONE: others", () -> {
            ReedSheets x = Edges.with(FULL_NOT + HALF_ONE);
            reading(x, 0, 1, 2);
            reading(x, 8, 1, 2);
            for (int i : new int[] {9, -1, 225, 10000, Edges.MIN, Edges.MAX}) {
                Edges.due("the one of number " + i, x.reading(i, 0), NONE);
                Edges.due("the one of number " + i, x.reading(i, 1), NONE);
            }
            for (int what : new int[] {2, -1, Edges.MIN, Edges.MAX}) {
                Edges.due("what " + what, x.reading(0, what), NONE);
            }
            x.forget(0);
            Edges.due("none is there", x.reading(0, 0), NONE);
        });
        Edges.edge("42: in lowest terms", () -> {
            ReedSheets x = Edges.with(FULL_NOT + BROKEN_ONE + HALF_ONE + "man r 7;woman s 7 wife r;");
            reading(x, 0, 1, 4);
            reading(x, 6, 1, 2);
        });
    }

    // ---- 43: says

    private static void ofSaying() {
        Edges.edge("43: a of b at least: in all READINGS (2), in some (1), in none (0)", () -> {
            ReedSheets x = Edges.with(FULL_NOT + CALLED_NOT + HALF_ONE + "man r 7;woman s 7 wife r;");
            // SORT 0: 1 / 4, three times; with 2, and 3: 1 / 2, six times
            int[][] want = {{0, 1, 2}, {1, 4, 2}, {24, 99, 2}, {25, 99, 1}, {25, 98, 1}, {1, 3, 1}, {1, 2, 1}, {49, 98, 1},
                {49, 99, 1}, {50, 99, 0}, {51, 99, 0}, {1, 1, 0}, {99, 99, 0}, {99, 1, 0}, {0, 99, 2}};
            for (int[] w : want) {
                Edges.due(w[0] + " of " + w[1], x.says(w[0], w[1]), w[2]);
            }
        });
        Edges.edge("43: all of them, and none", () -> {
            ReedSheets x = Edges.with(FULL_NOT);
            Edges.due("1 of 1", x.says(1, 1), 2);
            Edges.due("99 of 99", x.says(99, 99), 2);
            Edges.due("99 of 98", x.says(99, 98), 0);
            ReedSheets y = Edges.with(Edges.NO_ONE);
            Edges.due("0 of 1", y.says(0, 1), 2);
            Edges.due("1 of 99", y.says(1, 99), 0);
        });
        Edges.edge("43: in one READING alone, and in all but one", () -> {
            ReedSheets x = Edges.with(CALLED_SURELY + CALLED_PERHAPS + BROKEN_ONE + "man r 7;woman s 7 wife r;");
            Edges.put(x, 1, 0, 0, Edges.NO_ONE);
            // with 2 and 3, of all, without 1: 3 of 4; the others are 2 / 3 at most
            Edges.due("3 of 4", x.says(3, 4), 1);
            Edges.due("67 of 99", x.says(67, 99), 1);
            Edges.due("75 of 99", x.says(75, 99), 0);
            ReedSheets y = Edges.with(CALLED_SURELY + CALLED_PERHAPS + FULL_NOT);
            // SORT 0: 1 / 3, 1 / 2, 1; with 2, and 3: all
            Edges.due("1 of 2", y.says(1, 2), 1);
            Edges.due("1 of 3", y.says(1, 3), 2);
        });
        Edges.edge("43: a 0 to 99, b 1 to 99; NONE: others", () -> {
            ReedSheets x = Edges.with(FULL_NOT);
            for (int a : new int[] {100, -1, Edges.MIN, Edges.MAX}) {
                Edges.due("a " + a, x.says(a, 1), NONE);
            }
            for (int b : new int[] {0, 100, -1, Edges.MIN, Edges.MAX}) {
                Edges.due("b " + b, x.says(0, b), NONE);
            }
            Edges.due("0 of 99", x.says(0, 99), 2);
            Edges.due("99 of 1", x.says(99, 1), 0);
        });
        Edges.edge("43: NONE: no READING", () -> {
            ReedSheets x = new ReedSheets();
            Edges.due("no SHEET", x.says(0, 1), NONE);
            Edges.put(x, 0, 0, 0, "man a 7;");
            Edges.due("no MARRIAGE", x.says(0, 1), NONE);
            Edges.put(x, 0, 0, 0, Edges.NO_ONE);
            x.forget(0);
            Edges.due("forgotten", x.says(0, 1), NONE);
        });
    }

    // ---- 45: mark

    private static void ofMarks() {
        Edges.edge("45: MARKS 0 to 3; false: none such", () -> {
            ReedSheets x = new ReedSheets();
            for (int mark = 0; mark < 4; mark++) {
                Edges.due("laid " + mark, x.mark(mark, false), true);
                Edges.due("back to " + mark, x.mark(mark, true), true);
            }
            for (int mark : new int[] {4, -1, Edges.MIN, Edges.MAX}) {
                Edges.due("laid " + mark, x.mark(mark, false), false);
                Edges.due("back to " + mark, x.mark(mark, true), false);
            }
        });
        Edges.edge("45: false: nothing is on it (back), and nothing changes", () -> {
            ReedSheets x = Edges.with(Edges.NO_ONE);
            x.mark(1, false);
            for (int mark : new int[] {0, 2, 3}) {
                Edges.due("back to " + mark, x.mark(mark, true), false);
                Edges.due("READ", x.count(1), 1);
            }
        });
        Edges.edge("45: each holds for itself, and is held when one is gone back to", () -> {
            ReedSheets x = new ReedSheets();
            for (int mark = 0; mark < 4; mark++) {
                Edges.put(x, mark, 0, 0, Edges.NO_ONE);
                Edges.due("laid", x.mark(mark, false), true);
            }
            for (int mark : new int[] {2, 0, 3, 3, 1, 2}) {
                Edges.due("back", x.mark(mark, true), true);
                Edges.due("told", x.count(0), mark + 1);
                Edges.due("MARRIAGES", x.marriages(0, 0, NONE), mark + 1);
            }
        });
        Edges.edge("45: laid anew in place of what it was", () -> {
            ReedSheets x = Edges.with(Edges.NO_ONE);
            x.mark(0, false);
            x.forget(0);
            Edges.due("laid anew", x.mark(0, false), true);
            Edges.read(x, 0, Edges.NO_ONE);
            Edges.due("back", x.mark(0, true), true);
            Edges.due("READ", x.count(1), 0);
        });
        Edges.edge("45: SHEETS as they are told", () -> {
            ReedSheets x = new ReedSheets();
            x.mark(3, false);
            Edges.put(x, 0, 1, 2, Edges.NO_ONE);
            x.mark(0, false);
            Edges.put(x, 0, 3, 4, Edges.NO_ONE);
            Edges.put(x, 23, 5, 7, Edges.NO_ONE);
            Edges.due("back", x.mark(0, true), true);
            Edges.due("told", x.count(0), 1);
            Edges.due("its VILLAGE", x.marriages(1, 1, NONE), 1);
            Edges.due("its COUNT", x.marriages(2, 2, NONE), 1);
            Edges.due("not told then", x.may(23, 3), false);
            Edges.due("back to none", x.mark(3, true), true);
            Edges.due("told", x.count(0), 0);
            Edges.due("not told", x.read(0), NONE);
        });
        Edges.edge("45: SHEETS as they are READ", () -> {
            ReedSheets x = Edges.with(Edges.FULL_ONE);
            x.sheet(1, 0, 0);
            x.mark(0, false);
            Edges.read(x, 0, "man z 33;");
            Edges.read(x, 1, Edges.NO_ONE);
            x.mark(1, false);
            Edges.due("back", x.mark(0, true), true);
            Edges.due("LINES", x.lines(0), 2);
            Edges.due("SORT", x.sort(0, 1), 0);
            Edges.due("not READ", x.lines(1), NONE);
            x.forget(0);
            Edges.due("back to the other one", x.mark(1, true), true);
            Edges.due("AGE", x.line(0, 0, 1), 33);
            Edges.due("LINES", x.lines(1), 2);
        });
        Edges.edge("45: what they may have, too", () -> {
            ReedSheets x = Edges.with(Edges.NO_ONE);
            x.sheet(1, 0, 0);
            x.may(1, 5);
            x.mark(2, false);
            x.may(1, 20);
            x.mark(2, true);
            Edges.dueFraction("5 of 6", x.bounds(2), x.bounds(3), 5, 6);
        });
        Edges.edge("45: SIDES", () -> {
            ReedSheets x = new ReedSheets();
            for (int v = 0; v < 6; v++) {
                Edges.put(x, v, v, 0, Edges.NO_ONE);
            }
            x.side(0, 1);
            x.side(5, 1);
            x.mark(2, false);
            for (int v = 0; v < 6; v++) {
                x.side(v, v % 5 == 0 ? 0 : 1);
            }
            Edges.due("on side 1", x.marriages(3, 1, NONE), 4);
            x.mark(2, true);
            Edges.due("on side 1", x.marriages(3, 1, NONE), 2);
            x.forget(0);
            Edges.due("VILLAGE 0 is", x.marriages(3, 1, NONE), 1);
            x.forget(5);
            Edges.due("VILLAGE 5 is", x.marriages(3, 1, NONE), 0);
        });
        ofWhatStays();
    }

    private static void ofWhatStays() {
        Edges.edge("45: all else stays when one is gone back to", () -> {
            ReedSheets x = Edges.with(Edges.NO_ONE);
            x.mark(0, false);
            Edges.law(x, 3, "let when 1;let when 2;");
            x.gap(7);
            x.table(2, 3, 100);
            Edges.feed(x, "man q 9;");
            Edges.due("back", x.mark(0, true), true);
            Edges.due("LAWS", x.count(5), 2);
            Edges.due("lets", x.lets(3, 0, 1), 1);
            Edges.due("GAPS", x.count(4), 1);
            Edges.due("TABLES", x.at(2, 15), 500);
            Edges.due("signs", x.count(6), 8);
            Edges.due("read", x.read(0), 0);
            Edges.due("AGE", x.line(0, 0, 1), 9);
        });
        Edges.edge("45: what comes after it was laid is not on it", () -> {
            ReedSheets x = Edges.with(Edges.NO_ONE);
            x.mark(0, false);
            x.mark(0, true);
            x.side(0, 1);
            x.may(0, 9);
            x.sheet(1, 0, 0);
            Edges.read(x, 0, "man a 7;");
            x.mark(0, true);
            Edges.due("on side 0", x.marriages(3, 0, NONE), 1);
            Edges.due("told", x.count(0), 1);
            x.forget(0);
            Edges.dueFraction("may have 2", x.bounds(2), x.bounds(3), 1, 1);
            Edges.put(x, 1, 0, 0, Edges.NO_ONE);
            Edges.dueFraction("2 of 3", x.bounds(2), x.bounds(3), 2, 3);
        });
        Edges.edge("45: HOUSES, KNOWN years and LEFT OUT LINES are those of what is gone back to", () -> {
            ReedSheets x = new ReedSheets();
            String pair = "man pa 31 father o mother p;woman ma 30 father o mother p;";
            Edges.put(x, 0, 0, 1, pair);
            Edges.put(x, 1, 0, 2, pair.replace("31", "45").replace("30", "44") + "man c 17 father pa;");
            Edges.due("HOUSES", x.count(3), 1);
            x.mark(0, false);
            x.forget(1);
            Edges.due("HOUSES", x.count(3), 1);
            Edges.due("KNOWN", x.known(0, 1, 1), -14);
            Edges.due("LEFT OUT", x.left(0, 0, 0), 0);
            x.mark(0, true);
            Edges.due("house", x.house(0, 1), 1);
            Edges.due("KNOWN", x.known(0, 1, 1), -16);
            Edges.due("LEFT OUT", x.left(0, 0, 0), 1);
        });
    }

    // ---- 46: count

    private static void ofCounts() {
        Edges.edge("46: what 0 to 7; NONE for another what", () -> {
            ReedSheets x = Edges.with(Edges.NO_ONE);
            x.sheet(1, 0, 0);
            x.gap(3);
            x.gap(3);
            x.gap(3);
            Edges.law(x, 0, "let when 1;let when 1;let when 1;let when 1;");
            Edges.feed(x, "abcde");
            int[] want = {2, 1, 2, 1, 3, 4, 5, 0};
            for (int what = 0; what < 8; what++) {
                Edges.due("what " + what, x.count(what), want[what]);
            }
            for (int what : new int[] {8, -1, Edges.MIN, Edges.MAX}) {
                Edges.due("what " + what, x.count(what), NONE);
            }
        });
        Edges.edge("46: 0 told, 1 READ, 2 LINES of all, 3 HOUSES, at their most", () -> {
            ReedSheets x = new ReedSheets();
            for (int s = 0; s < 24; s++) {
                Edges.put(x, s, s % 6, s % 8, Edges.weddings(4, 4, 4, 4, 4, 4));
                Edges.due("told", x.count(0), s + 1);
                Edges.due("READ", x.count(1), s + 1);
                Edges.due("LINES", x.count(2), 12 * (s + 1));
            }
            Edges.due("HOUSES", x.count(3), 24);
            x.forget(5);
            Edges.due("told still", x.count(0), 24);
            Edges.due("READ", x.count(1), 23);
            Edges.due("LINES", x.count(2), 276);
        });
        Edges.edge("46: 5 lines of all LAWS", () -> {
            ReedSheets x = new ReedSheets();
            String six = Edges.repeat("let when 1;", 6);
            for (int law = 0; law < 4; law++) {
                Edges.law(x, law, six);
                Edges.due("lines", x.count(5), 6 * law + 6);
            }
            Edges.law(x, 1, "");
            Edges.due("lines", x.count(5), 18);
        });
        Edges.edge("46: 7 MARRIAGES of slaves and lodgers (he or she)", () -> {
            String[] hes = {"", " slave", " lodger", "", "", " slave lodger", " slave", " taken"};
            String[] shes = {"", "", "", " slave", " lodger", " slave lodger", " lodger", " taken"};
            int[] want = {0, 1, 1, 1, 1, 1, 1, 0};
            for (int i = 0; i < hes.length; i++) {
                ReedSheets x = Edges.with("man a 7" + hes[i] + ";woman b 7 wife a" + shes[i] + ";man c 7 slave;woman d 7 lodger;");
                Edges.due("he" + hes[i] + ", she" + shes[i], x.count(7), want[i]);
                x.forget(0);
                Edges.due("of READ SHEETS", x.count(7), 0);
            }
        });
    }

    public static void main(String[] args) {
        ofOrder();
        ofReadings();
        ofSaying();
        ofMarks();
        ofCounts();
        Edges.end();
    }
}
