/** The edges of promises 19 to 23 and 44: AGES, LINES that are ONE, HOUSES, KNOWN years, LEFT OUT, girls to boys. */
public final class EdgesOfHousesTest {
    private static final int NONE = Edges.NONE;
    private static final int[] NO_SHEETS = {2, 23, 24, -1, Edges.MIN, Edges.MAX};
    private static final String FG = " father f mother g;";
    private static final String BOTH = " father pa mother ma;";

    // ---- 19: heaping

    private static void ofHeaping() {
        Edges.edge("19: AGES from 10 to 69 that are divisible by 5, times 5, by all from 10 to 69", () -> {
            for (int age = 0; age <= 120; age++) {
                ReedSheets x = Edges.with("man a " + age + ";");
                boolean counts = age >= 10 && age <= 69;
                Edges.due("above of " + age, x.heaping(0, 0, 0), !counts ? NONE : age % 5 == 0 ? 5 : 0);
                Edges.due("below of " + age, x.heaping(0, 0, 1), counts ? 1 : NONE);
            }
        });
        Edges.edge("19: 9, 70 and beyond are neither above nor below", () -> {
            ReedSheets x = Edges.with("man a 5;man b 9;man c 10;man d 11;woman e 65;man h 69;man i 70;man j 120;woman k 0;");
            Edges.dueFraction("10 and 65 of four", x.heaping(0, 0, 0), x.heaping(0, 0, 1), 5, 2);
        });
        Edges.edge("19: in lowest terms", () -> {
            ReedSheets x = Edges.with("man a 10;man b 11;man c 12;man d 13;man e 14;");
            Edges.dueFraction("5 of 5", x.heaping(0, 0, 0), x.heaping(0, 0, 1), 1, 1);
            Edges.put(x, 1, 0, 0, "man a 16;man b 15;man c 17;man d 18;man e 69;");
            Edges.dueFraction("10 of 10", x.heaping(0, 0, 0), x.heaping(0, 0, 1), 1, 1);
            Edges.put(x, 1, 0, 0, "man a 11;");
            Edges.dueFraction("5 of 6", x.heaping(0, 0, 0), x.heaping(0, 0, 1), 5, 6);
        });
        Edges.edge("19: of 12 LINES", () -> {
            StringBuilder text = new StringBuilder();
            for (char name = 'a'; name < 'm'; name++) {
                text.append("man ").append(name).append(name == 'l' ? " 10;" : " 11;");
            }
            ReedSheets x = Edges.with(text.toString());
            Edges.put(x, 23, 5, 7, text.toString());
            Edges.dueFraction("10 of 24", x.heaping(0, 0, 0), x.heaping(0, 0, 1), 5, 12);
        });
        Edges.edge("19: NONE: no such AGE", () -> {
            ReedSheets x = Edges.with("man a 9;man b 70;");
            Edges.due("above", x.heaping(0, 0, 0), NONE);
            Edges.due("below", x.heaping(0, 0, 1), NONE);
            Edges.put(x, 1, 1, 1, "man a 11;");
            Edges.due("of VILLAGE 0", x.heaping(1, 0, 0), NONE);
            Edges.due("of COUNT 0", x.heaping(2, 0, 0), NONE);
            Edges.due("of SIDE 1", x.heaping(3, 1, 0), NONE);
            Edges.dueFraction("of VILLAGE 1", x.heaping(1, 1, 0), x.heaping(1, 1, 1), 0, 1);
            Edges.dueFraction("of COUNT 1", x.heaping(2, 1, 0), x.heaping(2, 1, 1), 0, 1);
            Edges.dueFraction("of SIDE 0", x.heaping(3, 0, 0), x.heaping(3, 0, 1), 0, 1);
            Edges.due("of nothing", new ReedSheets().heaping(0, 0, 0), NONE);
        });
        Edges.edge("19: NONE: others", () -> {
            ReedSheets x = Edges.with("man a 10;");
            int[][] others = {{4, 0}, {-1, 0}, {1, 6}, {1, -1}, {2, 8}, {2, -1}, {3, 2}, {3, -1}, {Edges.MAX, 0}, {Edges.MIN, 0}};
            for (int[] o : others) {
                Edges.due("scope " + o[0] + " " + o[1], x.heaping(o[0], o[1], 0), NONE);
            }
            for (int what : new int[] {2, -1, Edges.MIN, Edges.MAX}) {
                Edges.due("what " + what, x.heaping(0, 0, what), NONE);
            }
            Edges.due("of SCOPE 0 which is not asked", x.heaping(0, -7, 0), 5);
        });
    }

    // ---- 20: one

    /** Whether one of an AGE at COUNT 0 and one of an AGE at a later COUNT are ONE. */
    private static void meets(int age, int count, int other, boolean so) {
        ReedSheets x = Edges.with("man a " + age + FG);
        Edges.put(x, 1, 0, count, "man z 1;man a " + other + FG);
        Edges.due(age + " and " + other + " at " + count, x.one(0, 0, 1), so ? 1 : NONE);
        Edges.due("the other way round", x.one(1, 1, 0), so ? 0 : NONE);
    }

    private static void ofOne() {
        Edges.edge("20: COUNTS are 14 years apart", () -> {
            // 1 and 2 at COUNT 0; later AGES that are not divisible by 5, nor are those a year about them
            int[][] later = {{1, 17, 16}, {2, 29, 30}, {3, 43, 44}, {4, 57, 58}, {5, 71, 72}, {6, 86, 87}, {7, 99, 98}};
            for (int[] l : later) {
                int age = l[1] - 14 * l[0];
                meets(age, l[0], l[1], true);
                meets(age, l[0], l[2], l[2] % 5 == 0);
            }
        });
        Edges.edge("20: BORN spans meet: two years of their own", () -> {
            meets(2, 1, 16, true);
            meets(2, 1, 17, false);
            meets(4, 1, 17, false);
            meets(3, 1, 17, true);
        });
        Edges.edge("20: BORN spans meet: a year and 5 years", () -> {
            // 20 is -22 to -18; at COUNT 1 one of B is 14 - B
            meets(20, 1, 31, false);
            meets(20, 1, 32, true);
            meets(20, 1, 34, true);
            meets(20, 1, 36, true);
            meets(20, 1, 37, false);
            // and 20 at COUNT 1 is -8 to -4
            meets(3, 1, 20, false);
            meets(4, 1, 20, true);
            meets(8, 1, 20, true);
            meets(9, 1, 20, false);
        });
        Edges.edge("20: BORN spans meet: 5 years and 5 years", () -> {
            // -22 to -18 and -18 to -14; -17 to -13; -26 to -22; -27 to -23
            meets(20, 1, 30, true);
            meets(20, 5, 85, false);
            meets(20, 4, 80, true);
            meets(20, 5, 95, false);
            meets(20, 1, 35, true);
            meets(20, 2, 50, true);
        });
        Edges.edge("20: a SPAN is wide from 10 on", () -> {
            meets(10, 1, 22, true);
            meets(10, 1, 26, true);
            meets(10, 1, 27, false);
            meets(10, 1, 21, false);
            // 5 at COUNT 0 is -5 alone; 0 is 0 alone
            meets(5, 1, 18, false);
            meets(5, 1, 19, true);
            meets(0, 1, 14, true);
            meets(0, 1, 13, false);
            meets(0, 1, 16, false);
            meets(0, 1, 15, true);
        });
        Edges.edge("20: AGE 120", () -> {
            ReedSheets x = Edges.with("man a 120;");
            Edges.put(x, 1, 1, 1, "man a 120" + FG);
            Edges.put(x, 2, 1, 0, "man a 108" + FG);
            Edges.due("-108 to -104", x.one(1, 0, 2), 0);
            Edges.put(x, 2, 1, 0, "man a 109" + FG);
            Edges.due("-108 to -104", x.one(1, 0, 2), NONE);
        });
        Edges.edge("20: of one VILLAGE", () -> {
            ReedSheets x = Edges.with("man a 2" + FG);
            Edges.put(x, 1, 1, 1, "man a 16" + FG);
            Edges.due("of two", x.one(0, 0, 1), NONE);
            Edges.put(x, 1, 0, 1, "man a 16" + FG);
            Edges.due("of one", x.one(0, 0, 1), 0);
        });
        Edges.edge("20: of two COUNTS", () -> {
            ReedSheets x = Edges.with("man a 2" + FG);
            Edges.put(x, 1, 0, 0, "man a 2" + FG);
            Edges.due("of one", x.one(0, 0, 1), NONE);
        });
        Edges.edge("20: both are men or both women", () -> {
            ReedSheets x = Edges.with("man a 2" + FG + "woman b 2" + FG + "woman c 2" + FG + "man d 2" + FG);
            Edges.put(x, 1, 0, 1, "woman a 16" + FG + "man b 16" + FG + "woman c 16" + FG + "man d 16" + FG);
            int[] want = {NONE, NONE, 2, 3};
            for (int i = 0; i < 4; i++) {
                Edges.due("line " + i, x.one(0, i, 1), want[i]);
            }
        });
        Edges.edge("20: of the same NAME", () -> {
            ReedSheets x = Edges.with("man a 2" + FG);
            Edges.put(x, 1, 0, 1, "man b 16" + FG + "man aa 16" + FG);
            Edges.due("of others", x.one(0, 0, 1), NONE);
        });
        Edges.edge("20: with a father and a mother, the same NAMES", () -> {
            String[] here = {"", " father f", " mother g", " father f mother g", " father f mother g", " father f mother g"};
            String[] there = {"", " father f", " mother g", " father f", " father f mother h", " father g mother f"};
            for (int i = 0; i < here.length; i++) {
                ReedSheets x = Edges.with("man a 2" + here[i] + ";");
                Edges.put(x, 1, 0, 1, "man a 16" + there[i] + ";");
                Edges.due("parents" + here[i] + " and" + there[i], x.one(0, 0, 1), NONE);
                Edges.due("the other way round", x.one(1, 0, 0), NONE);
            }
        });
        Edges.edge("20: NONE: others", () -> {
            ReedSheets x = Edges.with("man a 2" + FG);
            Edges.put(x, 1, 0, 1, "man a 16" + FG);
            Edges.due("ONE", x.one(0, 0, 1), 0);
            Edges.due("the same SHEET", x.one(0, 0, 0), NONE);
            for (int line : new int[] {1, 11, 12, -1, Edges.MIN, Edges.MAX}) {
                Edges.due("line " + line, x.one(0, line, 1), NONE);
            }
            x.sheet(2, 0, 1);
            for (int s : NO_SHEETS) {
                Edges.due("SHEET " + s, x.one(s, 0, 1), NONE);
                Edges.due("of SHEET " + s, x.one(0, 0, s), NONE);
            }
            x.forget(1);
            Edges.due("forgotten", x.one(0, 0, 1), NONE);
        });
    }

    // ---- 21: house

    /** Brothers and sisters of f and g, the first letter a woman where it is one of u to z. */
    private static String brood(String names, int age) {
        StringBuilder text = new StringBuilder();
        for (char name : names.toCharArray()) {
            text.append(name >= 'u' ? "woman " : "man ").append(name).append(' ').append(age).append(FG);
        }
        return text.toString();
    }

    private static void ofHouses() {
        Edges.edge("21: of ONE HOUSE if 2 LINES or more are ONE", () -> {
            String[] there = {"cd", "ac", "ab", "abu", "zbau"};
            int[] want = {0, 0, 1, 1, 1};
            for (int i = 0; i < there.length; i++) {
                ReedSheets x = Edges.with(brood("abu", 2));
                Edges.put(x, 1, 0, 1, brood(there[i], 16));
                Edges.due("house of abu and " + there[i], x.house(0, 1), want[i]);
                Edges.due("the other way round", x.house(1, 0), want[i]);
                Edges.due("HOUSES", x.count(3), 2 - want[i]);
            }
        });
        Edges.edge("21: one LINE to each of two SHEETS is not enough", () -> {
            ReedSheets x = Edges.with(brood("ab", 2));
            Edges.put(x, 1, 0, 1, brood("ac", 16));
            Edges.put(x, 2, 0, 2, brood("bc", 31));
            Edges.due("0 and 1", x.house(0, 1), 0);
            Edges.due("1 and 2", x.house(1, 2), 0);
            Edges.due("HOUSES", x.count(3), 3);
        });
        Edges.edge("21: any two (of one COUNT, too) if both are of ONE HOUSE with a third one", () -> {
            ReedSheets x = Edges.with(brood("ab", 2));
            Edges.put(x, 1, 0, 0, brood("uv", 2));
            Edges.due("of one COUNT", x.house(0, 1), 0);
            Edges.put(x, 2, 0, 1, brood("abuv", 16));
            Edges.due("by a third one", x.house(0, 1), 1);
            Edges.due("HOUSES", x.count(3), 1);
            x.forget(2);
            Edges.due("without it", x.house(0, 1), 0);
            Edges.due("HOUSES", x.count(3), 2);
        });
        Edges.edge("21: of one COUNT the same LINES do not make ONE HOUSE", () -> {
            ReedSheets x = Edges.with(brood("abu", 2));
            Edges.put(x, 1, 0, 0, brood("abu", 2));
            Edges.due("house", x.house(0, 1), 0);
        });
        Edges.edge("21: over third ones of third ones", () -> {
            ReedSheets x = new ReedSheets();
            String[] names = {"ab", "abcd", "cdmn", "mnuv", "uvwx", "wxyz", "yz"};
            int[] order = {6, 0, 3, 5, 1, 4, 2};
            for (int c : order) {
                Edges.put(x, 23 - 3 * c, 2, c, brood(names[c], 2 + 14 * c));
            }
            Edges.due("the first and the last", x.house(23, 5), 1);
            Edges.due("HOUSES", x.count(3), 1);
            x.forget(23 - 9);
            Edges.due("without the one between", x.house(23, 5), 0);
            Edges.due("HOUSES", x.count(3), 2);
            Edges.due("ahead of it", x.house(23, 17), 1);
            Edges.due("behind it", x.house(11, 5), 1);
        });
        Edges.edge("21: not of another VILLAGE", () -> {
            ReedSheets x = Edges.with(brood("ab", 2));
            Edges.put(x, 1, 1, 1, brood("ab", 16));
            Edges.due("house", x.house(0, 1), 0);
            Edges.put(x, 2, 1, 0, brood("ab", 2));
            Edges.due("house", x.house(0, 2), 0);
            Edges.due("the two of VILLAGE 1", x.house(1, 2), 1);
        });
        Edges.edge("21: NONE: not READ, the same", () -> {
            ReedSheets x = Edges.with(brood("ab", 2));
            Edges.put(x, 1, 0, 1, brood("ab", 16));
            Edges.due("the same", x.house(0, 0), NONE);
            x.sheet(2, 0, 1);
            for (int s : NO_SHEETS) {
                Edges.due("SHEET " + s, x.house(s, 0), NONE);
                Edges.due("SHEET " + s, x.house(0, s), NONE);
                Edges.due("SHEET " + s, x.house(s, s), NONE);
            }
            x.forget(1);
            Edges.due("forgotten", x.house(0, 1), NONE);
        });
        Edges.edge("46: HOUSES: one that is of ONE HOUSE with none, too; of READ SHEETS", () -> {
            ReedSheets x = new ReedSheets();
            Edges.due("none", x.count(3), 0);
            x.sheet(0, 0, 0);
            Edges.due("not READ", x.count(3), 0);
            for (int s = 0; s < 24; s++) {
                Edges.put(x, s, s % 6, s / 6, s == 7 ? "" : brood("ab", 2));
            }
            Edges.due("all", x.count(3), 24);
            x.forget(7);
            Edges.due("one less", x.count(3), 23);
        });
        Edges.edge("21: asked when it is told, asked anew when it is READ, when it is told anew, when it is forgotten", () -> {
            ReedSheets x = Edges.with(brood("ab", 2));
            x.sheet(1, 0, 1);
            Edges.due("told", x.house(0, 1), NONE);
            Edges.due("HOUSES", x.count(3), 1);
            Edges.read(x, 1, brood("ac", 16));
            Edges.due("READ", x.house(0, 1), 0);
            Edges.due("HOUSES", x.count(3), 2);
            Edges.read(x, 1, brood("ab", 16));
            Edges.due("READ again", x.house(0, 1), 1);
            Edges.due("a FAULT", Edges.read(x, 1, "man ("), 1 + 16 * 4);
            Edges.due("it stays", x.house(0, 1), 1);
            Edges.put(x, 2, 0, 2, brood("ab", 30));
            Edges.due("three", x.count(3), 1);
            x.forget(1);
            Edges.due("forgotten", x.house(0, 2), 1);
            x.sheet(2, 0, 2);
            Edges.due("told anew", x.count(3), 1);
            Edges.read(x, 1, brood("ab", 16));
            Edges.due("READ", x.house(0, 1), 1);
            x.sheet(1, 1, 1);
            Edges.due("told anew", x.count(3), 1);
        });
        Edges.edge("21: told of another VILLAGE or COUNT, it is asked anew", () -> {
            ReedSheets x = Edges.with(brood("ab", 2));
            Edges.put(x, 1, 0, 1, brood("ab", 16));
            Edges.due("ONE HOUSE", x.count(3), 1);
            Edges.put(x, 1, 1, 1, brood("ab", 16));
            Edges.due("of another VILLAGE", x.house(0, 1), 0);
            Edges.put(x, 1, 0, 2, brood("ab", 16));
            Edges.due("of another COUNT", x.house(0, 1), 0);
            Edges.put(x, 1, 0, 1, brood("ab", 16));
            Edges.due("back", x.house(0, 1), 1);
        });
    }

    // ---- 22: known

    private static void known(ReedSheets x, int sheet, int line, int first, int last) {
        Edges.due("first of " + sheet + ", " + line, x.known(sheet, line, 0), first);
        Edges.due("last of " + sheet + ", " + line, x.known(sheet, line, 1), last);
    }

    private static void ofKnown() {
        Edges.edge("22: its own span", () -> {
            ReedSheets x = Edges.with("man a 9;man b 10;man c 11;man d 0;man e 5;man h 120;");
            Edges.put(x, 1, 0, 7, "man a 9;man b 10;");
            known(x, 0, 0, -9, -9);
            known(x, 0, 1, -12, -8);
            known(x, 0, 2, -11, -11);
            known(x, 0, 3, 0, 0);
            known(x, 0, 4, -5, -5);
            known(x, 0, 5, -122, -118);
            known(x, 1, 0, 98 - 9, 98 - 9);
            known(x, 1, 1, 98 - 12, 98 - 8);
        });
        Edges.edge("22: the years in those of all LINES that are ONE with it", () -> {
            // -22 to -18; -23 to -19; -24 to -20
            ReedSheets x = Edges.with("man a 20" + FG);
            Edges.put(x, 1, 0, 1, "man a 35" + FG);
            known(x, 0, 0, -22, -19);
            known(x, 1, 0, -22, -19);
            Edges.put(x, 2, 0, 2, "man a 50" + FG);
            known(x, 0, 0, -22, -20);
            known(x, 1, 0, -22, -20);
            known(x, 2, 0, -22, -20);
        });
        Edges.edge("22: one year is left where they but meet", () -> {
            // -22 to -18 and -18 to -14; -22 to -18 and -26 to -22
            ReedSheets x = Edges.with("man a 20" + FG + "man b 20" + FG);
            Edges.put(x, 1, 0, 1, "man a 30" + FG);
            Edges.put(x, 2, 0, 4, "man b 80" + FG);
            known(x, 0, 0, -18, -18);
            known(x, 1, 0, -18, -18);
            known(x, 0, 1, -22, -22);
            known(x, 2, 0, -22, -22);
        });
        Edges.edge("22: ONE with it, not with one that is ONE with it", () -> {
            // -22 to -18, -18 to -14 and -14 to -10: the first and the last are not ONE
            ReedSheets x = Edges.with("man a 20" + FG);
            Edges.put(x, 1, 0, 1, "man a 30" + FG);
            Edges.put(x, 2, 0, 2, "man a 40" + FG);
            Edges.due("not ONE", x.one(0, 0, 2), NONE);
            known(x, 0, 0, -18, -18);
            known(x, 2, 0, -14, -14);
            Edges.throwsNoSuch("the one between", () -> x.known(1, 0, 0));
            Edges.throwsNoSuch("the one between", () -> x.known(1, 0, 1));
        });
        Edges.edge("22: of SHEETS that are not of ONE HOUSE, too", () -> {
            ReedSheets x = Edges.with("man a 20" + FG);
            Edges.put(x, 1, 0, 1, "man a 35" + FG);
            Edges.due("house", x.house(0, 1), 0);
            known(x, 0, 0, -22, -19);
        });
        Edges.edge("22: not of SHEETS of ONE HOUSE and one COUNT", () -> {
            ReedSheets x = Edges.with("man a 20" + FG + "man b 20" + FG + "man c 3" + FG);
            Edges.put(x, 1, 0, 0, "man a 20" + FG + "man b 20" + FG + "man c 4" + FG);
            Edges.put(x, 2, 0, 1, "man a 35" + FG + "man b 35" + FG);
            Edges.due("house", x.house(0, 1), 1);
            known(x, 0, 2, -3, -3);
            known(x, 1, 2, -4, -4);
            known(x, 0, 0, -22, -19);
        });
        Edges.edge("22: one forgotten or told anew does not count", () -> {
            ReedSheets x = Edges.with("man a 20" + FG);
            Edges.put(x, 1, 0, 1, "man a 35" + FG);
            known(x, 0, 0, -22, -19);
            x.forget(1);
            known(x, 0, 0, -22, -18);
            Edges.read(x, 1, "man a 35" + FG);
            known(x, 0, 0, -22, -19);
            x.sheet(1, 0, 1);
            known(x, 0, 0, -22, -18);
        });
        Edges.edge("22: each LINE for itself, of 12 on either SHEET", () -> {
            // h to s of AGE 20 at COUNT 0; at COUNT 1, the other way round, of 32, 33, 34 and 36 years
            StringBuilder here = new StringBuilder();
            StringBuilder there = new StringBuilder();
            int[] born = {-18, -19, -20, -22, -18, -19, -20, -22, -18, -19, -20, -22};
            for (int i = 0; i < 12; i++) {
                here.append("man ").append((char) ('h' + i)).append(" 20").append(FG);
                there.append("man ").append((char) ('s' - i)).append(' ').append(14 - born[11 - i]).append(FG);
            }
            ReedSheets x = Edges.with(here.toString());
            Edges.put(x, 23, 0, 1, there.toString());
            for (int i = 0; i < 12; i++) {
                known(x, 0, i, born[i], born[i]);
                known(x, 23, 11 - i, born[i], born[i]);
            }
        });
        Edges.edge("22: each LINE of the later SHEET for itself", () -> {
            // -23 to -19 each at COUNT 1; at COUNT 0 in -23, -22, -21 and -19
            ReedSheets x = new ReedSheets();
            Edges.put(x, 1, 0, 1, "man a 35" + FG + "man b 35" + FG + "man c 35" + FG + "man d 35" + FG + "man e 35" + FG);
            Edges.put(x, 0, 0, 0, "man d 19" + FG + "man b 22" + FG + "man a 23" + FG + "man c 21" + FG);
            int[] born = {-23, -22, -21, -19};
            for (int i = 0; i < 4; i++) {
                known(x, 1, i, born[i], born[i]);
            }
            known(x, 1, 4, -23, -19);
        });
        Edges.edge("22: NoSuchElementException: others", () -> {
            ReedSheets x = Edges.with("man a 20;");
            for (int what : new int[] {2, -1, Edges.MIN, Edges.MAX}) {
                Edges.throwsNoSuch("what " + what, () -> x.known(0, 0, what));
            }
            for (int line : new int[] {1, 11, 12, -1, Edges.MIN, Edges.MAX}) {
                Edges.throwsNoSuch("line " + line, () -> x.known(0, line, 0));
            }
            x.sheet(2, 0, 0);
            for (int s : NO_SHEETS) {
                Edges.throwsNoSuch("SHEET " + s, () -> x.known(s, 0, 0));
            }
        });
    }

    // ---- 23: left

    private static final String PAIR_31 = "man pa 31 father o mother p;woman ma 31 father o mother p;";
    private static final String PAIR_45 = "man pa 45 father o mother p;woman ma 45 father o mother p;";
    private static final String PAIR_59 = "man pa 59 father o mother p;woman ma 59 father o mother p;";

    private static void left(ReedSheets x, int sheet, int women, int surely, int perhaps) {
        Edges.due("left " + sheet + ", " + women + " surely", x.left(sheet, women, 0), surely);
        Edges.due("left " + sheet + ", " + women + " perhaps", x.left(sheet, women, 1), perhaps);
    }

    /** A SHEET of COUNT 1 and a later one of ONE HOUSE, of COUNT 2, with one LINE more. */
    private static void leftOut(String line, int surely, int perhaps) {
        ReedSheets x = new ReedSheets();
        Edges.put(x, 0, 0, 1, PAIR_31);
        Edges.put(x, 1, 0, 2, PAIR_45 + line);
        int women = line.startsWith("woman") ? 1 : 0;
        left(x, 0, women, surely, perhaps);
        left(x, 0, 1 - women, 0, 0);
        left(x, NONE, women, surely, perhaps);
        left(x, 1, women, 0, 0);
    }

    private static void ofLeft() {
        Edges.edge("23: born ahead of the year 14 * COUNT of the first one, surely", () -> {
            // at COUNT 2, the year 28, one of A was born in 28 - A; COUNT 1 is the year 14
            leftOut("man c 13" + BOTH, 0, 0);
            leftOut("man c 14" + BOTH, 0, 0);
            leftOut("man c 16" + BOTH, 1, 0);
            leftOut("woman c 17" + BOTH, 1, 0);
            leftOut("woman c 14" + BOTH, 0, 0);
        });
        Edges.edge("23: surely: all KNOWN years, perhaps: some", () -> {
            // 15: 11 to 15; 10: 16 to 20; 20: 6 to 10
            leftOut("woman c 15" + BOTH, 0, 1);
            leftOut("man c 15" + BOTH, 0, 1);
            leftOut("man c 10" + BOTH, 0, 0);
            leftOut("man c 20" + BOTH, 1, 0);
        });
        Edges.edge("23: all but one, and but one, of the KNOWN years", () -> {
            // the first SHEET of COUNT c, the later one of COUNT d; 5 * k years old there: 14 * d - 5 * k, 2 about it
            int[][] cases = {{1, 2, 15, 0, 1}, {0, 1, 15, 0, 1}, {0, 1, 20, 1, 0}, {2, 4, 30, 0, 1}, {1, 5, 55, 0, 1},
                {0, 2, 30, 0, 1}, {1, 3, 30, 0, 1}, {0, 4, 55, 0, 1}, {1, 4, 45, 1, 0}, {1, 4, 40, 0, 0}};
            for (int[] c : cases) {
                ReedSheets x = new ReedSheets();
                Edges.put(x, 0, 0, c[0], PAIR_31);
                int age = 31 + 14 * (c[1] - c[0]);
                Edges.put(x, 1, 0, c[1], PAIR_31.replace("31", "" + age) + "man c " + c[2] + BOTH);
                left(x, 0, 0, c[3], c[4]);
            }
        });
        Edges.edge("23: without any KNOWN year neither", () -> {
            ReedSheets x = new ReedSheets();
            Edges.put(x, 0, 0, 1, PAIR_31);
            // at COUNT 2: -2 to 2; at 3 in 2, at 4 in -2: both are ONE with the first, which has no KNOWN year
            Edges.put(x, 1, 0, 2, PAIR_45 + "man c 28" + BOTH);
            left(x, 0, 0, 1, 0);
            Edges.put(x, 1, 0, 2, PAIR_45 + "man c 30" + BOTH);
            left(x, 0, 0, 1, 0);
            Edges.put(x, 2, 0, 3, "man c 42" + BOTH);
            left(x, 0, 0, 1, 0);
            Edges.put(x, 3, 0, 4, "man c 59" + BOTH);
            // 0 and -3 are both ONE with -4 to 0 at COUNT 2
            Edges.throwsNoSuch("known", () -> x.known(1, 2, 0));
            left(x, 0, 0, 0, 0);
        });
        Edges.edge("23: its KNOWN years, not its own span alone", () -> {
            // 15 at COUNT 2: 11 to 15; at COUNT 3 in 13, or in 15
            ReedSheets x = new ReedSheets();
            Edges.put(x, 0, 0, 1, PAIR_31);
            Edges.put(x, 1, 0, 2, PAIR_45 + "man c 15" + BOTH);
            left(x, 0, 0, 0, 1);
            Edges.put(x, 2, 0, 3, "man c 29" + BOTH);
            left(x, 0, 0, 1, 0);
            Edges.put(x, 2, 0, 3, "man c 27" + BOTH);
            left(x, 0, 0, 0, 0);
        });
        ofLeftParents();
        ofLeftHouses();
    }

    private static void ofLeftParents() {
        Edges.edge("23: whose father is a man, or whose mother is a woman, of a LINE", () -> {
            leftOut("man c 17 father pa;", 1, 0);
            leftOut("man c 17 mother ma;", 1, 0);
            leftOut("man c 17 father pa mother zz;", 1, 0);
            leftOut("man c 17 father zz mother ma;", 1, 0);
            leftOut("woman c 17 father pa;", 1, 0);
            leftOut("man c 17;", 0, 0);
            leftOut("man c 17 father zz mother yy;", 0, 0);
            leftOut("man c 17 father ma mother pa;", 0, 0);
            leftOut("man c 17 father ma;", 0, 0);
            leftOut("man c 17 mother pa;", 0, 0);
        });
        Edges.edge("23: of a LINE of the first one, by NAME", () -> {
            // the father is on the later SHEET alone; or he is another man of that NAME, without parents
            leftOut("man qa 30;man c 17 father qa;", 0, 0);
            ReedSheets x = new ReedSheets();
            Edges.put(x, 0, 0, 1, PAIR_31 + "man qa 3;");
            Edges.put(x, 1, 0, 2, PAIR_45 + "man c 17 father qa;");
            left(x, 0, 0, 1, 0);
        });
        Edges.edge("23: any LINE of it, the first and the last", () -> {
            ReedSheets x = new ReedSheets();
            Edges.put(x, 0, 0, 1, "man h 3;woman i 3;" + PAIR_31 + "woman j 3;man k 3;");
            Edges.put(x, 1, 0, 2, PAIR_45 + "man c 17 father h;man d 17 father k;woman e 17 mother i;woman l 17 mother j;");
            left(x, 0, 0, 2, 0);
            left(x, 0, 1, 2, 0);
        });
        Edges.edge("23: is ONE with no LINE of it", () -> {
            ReedSheets x = new ReedSheets();
            Edges.put(x, 0, 0, 1, PAIR_31 + "man c 3" + BOTH + "man d 3" + BOTH + "woman e 3" + BOTH);
            // c: 11 and 11; d: 11 and 10; e is a man there
            Edges.put(x, 1, 0, 2, PAIR_45 + "man c 17" + BOTH + "man d 18" + BOTH + "man e 17" + BOTH);
            left(x, 0, 0, 2, 0);
            left(x, 0, 1, 0, 0);
        });
    }

    private static void ofLeftHouses() {
        Edges.edge("23: of a later COUNT", () -> {
            ReedSheets x = new ReedSheets();
            Edges.put(x, 0, 0, 2, PAIR_45);
            Edges.put(x, 1, 0, 1, PAIR_31 + "man c 3" + BOTH);
            left(x, 0, 0, 0, 0);
            left(x, 1, 0, 0, 0);
            Edges.put(x, 2, 0, 2, PAIR_45 + "man d 17" + BOTH);
            // of the same COUNT and HOUSE as 0, later than 1
            Edges.due("house", x.house(0, 2), 1);
            left(x, 0, 0, 0, 0);
            left(x, 1, 0, 1, 0);
            left(x, 2, 0, 0, 0);
        });
        Edges.edge("23: of ONE HOUSE", () -> {
            ReedSheets x = new ReedSheets();
            Edges.put(x, 0, 0, 1, PAIR_31);
            Edges.put(x, 1, 0, 2, "man pa 45 father o mother p;man c 17" + BOTH);
            Edges.due("one LINE is ONE", x.house(0, 1), 0);
            left(x, 0, 0, 0, 0);
            Edges.put(x, 2, 0, 3, PAIR_59 + "man c 31" + BOTH);
            Edges.due("ONE HOUSE by a third one", x.house(0, 1), 1);
            left(x, 0, 0, 2, 0);
        });
        Edges.edge("23: over two COUNTS, too", () -> {
            ReedSheets x = new ReedSheets();
            Edges.put(x, 0, 0, 1, PAIR_31);
            Edges.put(x, 1, 0, 3, PAIR_59 + "woman c 29" + BOTH + "woman d 28" + BOTH);
            left(x, 0, 1, 1, 0);
        });
        Edges.edge("23: NONE: of all, each for itself", () -> {
            ReedSheets x = new ReedSheets();
            Edges.put(x, 0, 0, 0, PAIR_31.replace("31", "17"));
            Edges.put(x, 1, 0, 1, PAIR_31);
            Edges.put(x, 2, 0, 2, PAIR_45 + "man c 33" + BOTH + "woman d 33" + BOTH + "woman e 15" + BOTH);
            left(x, 0, 0, 1, 0);
            left(x, 1, 0, 1, 0);
            left(x, NONE, 0, 2, 0);
            left(x, 0, 1, 1, 0);
            left(x, 1, 1, 1, 1);
            left(x, NONE, 1, 2, 1);
            left(new ReedSheets(), NONE, 0, 0, 0);
        });
        Edges.edge("23: a LINE of each of two later SHEETS is LEFT OUT", () -> {
            ReedSheets x = new ReedSheets();
            Edges.put(x, 0, 0, 1, PAIR_31);
            Edges.put(x, 1, 0, 2, PAIR_45 + "man c 17" + BOTH);
            Edges.put(x, 2, 0, 3, PAIR_59 + "man c 31" + BOTH);
            left(x, 0, 0, 2, 0);
        });
        Edges.edge("23: asked again it is the same, and anew when SHEETS change", () -> {
            ReedSheets x = new ReedSheets();
            Edges.put(x, 23, 0, 1, PAIR_31);
            Edges.put(x, 0, 0, 2, PAIR_45 + "man c 17" + BOTH + "man d 15" + BOTH + "woman e 17" + BOTH + "woman h 15" + BOTH);
            for (int i = 0; i < 3; i++) {
                left(x, 23, 0, 1, 1);
                left(x, 23, 1, 1, 1);
                left(x, NONE, 1, 1, 1);
                x.sheet(20 + i, 1, 0);
            }
            x.sheet(0, 0, 2);
            left(x, 23, 0, 0, 0);
            left(x, 23, 1, 0, 0);
            left(x, NONE, 0, 0, 0);
            Edges.read(x, 0, PAIR_45 + "woman e 15" + BOTH);
            left(x, 23, 0, 0, 0);
            left(x, 23, 1, 0, 1);
            x.forget(0);
            left(x, 23, 1, 0, 0);
        });
        Edges.edge("23: any LINE of the later one, the first and the last", () -> {
            ReedSheets x = new ReedSheets();
            Edges.put(x, 0, 0, 1, PAIR_31);
            Edges.put(x, 1, 0, 2, "man c 17" + BOTH + "woman d 15" + BOTH + PAIR_45 + "woman e 17" + BOTH);
            left(x, 0, 0, 1, 0);
            left(x, 0, 1, 1, 1);
        });
        Edges.edge("23: as many as can be: 10 LINES of a SHEET of 12", () -> {
            StringBuilder ten = new StringBuilder();
            for (char name = 'a'; name < 'k'; name++) {
                ten.append("man ").append(name).append(" 17 father pa;");
            }
            ReedSheets x = new ReedSheets();
            Edges.put(x, 22, 0, 1, PAIR_31);
            Edges.put(x, 23, 0, 2, PAIR_45 + ten);
            left(x, 22, 0, 10, 0);
            Edges.due("young", x.young(0, 1), 10);
        });
        Edges.edge("23: one without a father, or without a mother, has none on the first one", () -> {
            ReedSheets x = new ReedSheets();
            String turned = "woman ma 31 father o mother p;man pa 31 father o mother p;";
            Edges.put(x, 0, 0, 1, turned);
            Edges.put(x, 1, 0, 2, PAIR_45 + "man c 17 father zz;man d 17 mother zz;man e 17;woman h 17;");
            left(x, 0, 0, 0, 0);
            left(x, 0, 1, 0, 0);
            ReedSheets y = new ReedSheets();
            Edges.put(y, 0, 0, 1, PAIR_31);
            Edges.put(y, 1, 0, 2, PAIR_45 + "man c 17 father zz;man d 17 mother zz;man e 17;woman h 17;");
            left(y, 0, 0, 0, 0);
            left(y, 0, 1, 0, 0);
        });
        Edges.edge("23: NONE: others, not READ", () -> {
            ReedSheets x = new ReedSheets();
            Edges.put(x, 0, 0, 1, PAIR_31);
            Edges.put(x, 1, 0, 2, PAIR_45 + "man c 17" + BOTH);
            x.sheet(2, 0, 3);
            for (int s : new int[] {2, 23, 24, -2, Edges.MIN, Edges.MAX}) {
                Edges.due("SHEET " + s, x.left(s, 0, 0), NONE);
            }
            for (int other : new int[] {2, -1, Edges.MIN, Edges.MAX}) {
                Edges.due("women " + other, x.left(0, other, 0), NONE);
                Edges.due("women " + other, x.left(NONE, other, 0), NONE);
                Edges.due("what " + other, x.left(0, 0, other), NONE);
                Edges.due("what " + other, x.left(NONE, 0, other), NONE);
            }
            left(x, 0, 0, 1, 0);
            x.forget(0);
            Edges.due("forgotten", x.left(0, 0, 0), NONE);
        });
    }

    // ---- 44: young

    private static void ofYoung() {
        Edges.edge("44: LINES of AGES to 14", () -> {
            ReedSheets x = Edges.with("man a 0;man b 13;man c 14;man d 15;man e 120;woman h 14;woman i 15;");
            Edges.due("men", x.young(0, 0), 3);
            Edges.due("women", x.young(1, 0), 1);
            x.sheet(1, 0, 0);
            Edges.read(x, 1, "woman a 0;");
            Edges.due("of all READ", x.young(1, 0), 2);
            x.forget(1);
            Edges.due("of those READ alone", x.young(1, 0), 1);
        });
        Edges.edge("44: how 0: told, 1: with LEFT OUT surely, 2: perhaps, too", () -> {
            ReedSheets x = new ReedSheets();
            Edges.put(x, 0, 0, 1, PAIR_31 + "man k 9;");
            Edges.put(x, 1, 0, 2, PAIR_45 + "man c 16" + BOTH + "man d 18" + BOTH + "man e 15" + BOTH + "woman h 15" + BOTH
                    + "woman i 17" + BOTH + "woman j 14" + BOTH + "woman k 18" + BOTH + "woman l 19" + BOTH);
            int[][] want = {{1, 3, 4}, {1, 4, 5}};
            for (int women = 0; women < 2; women++) {
                for (int how = 0; how < 3; how++) {
                    Edges.due("young " + women + ", " + how, x.young(women, how), want[women][how]);
                }
            }
        });
        Edges.edge("44: of each READ SHEET", () -> {
            ReedSheets x = new ReedSheets();
            Edges.put(x, 0, 0, 0, PAIR_31.replace("31", "17"));
            Edges.put(x, 1, 0, 1, PAIR_31);
            Edges.put(x, 2, 0, 2, PAIR_45 + "woman d 33" + BOTH + "woman e 15" + BOTH);
            Edges.due("surely", x.young(1, 1), 2);
            Edges.due("perhaps, too", x.young(1, 2), 3);
            x.forget(0);
            Edges.due("surely", x.young(1, 1), 1);
        });
        Edges.edge("44: NONE: others", () -> {
            ReedSheets x = Edges.with("man a 3;");
            for (int other : new int[] {-1, 2, Edges.MIN, Edges.MAX}) {
                Edges.due("women " + other, x.young(other, 0), NONE);
            }
            for (int other : new int[] {-1, 3, Edges.MIN, Edges.MAX}) {
                Edges.due("how " + other, x.young(0, other), NONE);
            }
            Edges.due("nobody", new ReedSheets().young(1, 2), 0);
        });
    }

    public static void main(String[] args) {
        ofHeaping();
        ofOne();
        ofHouses();
        ofKnown();
        ofLeft();
        ofYoung();
        Edges.end();
    }
}
