import java.util.NoSuchElementException;

/** Each promise of the document, with answers worked out by hand; those of WORLDS are from a script or the shared test. */
public final class PromiseTest {
    private static final int NONE = ReedSheets.NONE;
    private static int wrong = 0;

    private static final String OLD_HOUSE =
            "man pa 50 father old mother she;woman ma 45 wife pa father old mother she;"
            + "man bo 20 father pa mother ma;woman si 18 father pa mother ma wife bo sister bo;"
            + "woman li 15 father pa mother ma;";
    private static final String NEW_HOUSE =
            "man bo 35 father pa mother ma;woman si 32 father pa mother ma wife bo;"
            + "woman li 30 father pa mother ma;woman gi 16 father pa mother ma;"
            + "man zo 40 slave;woman wi 33 wife zo sister zo broken;";

    private interface Call {
        long run();
    }

    private static void due(String what, long got, long want) {
        if (got != want) {
            wrong++;
            System.out.println(what + " answered " + got + ", due is " + want);
        }
    }

    private static void due(String what, boolean got, boolean want) {
        due(what, got ? 1 : 0, want ? 1 : 0);
    }

    private static void throwsNoSuch(String what, Call call) {
        try {
            long got = call.run();
            wrong++;
            System.out.println(what + " answered " + got + ", due is NoSuchElementException");
        } catch (NoSuchElementException e) {
            return;
        }
    }

    private static int read(ReedSheets x, int sheet, String text) {
        Edges.feed(x, text);
        return x.read(sheet);
    }

    private static int law(ReedSheets x, int law, String text) {
        Edges.feed(x, text);
        return x.law(law);
    }

    private static void put(ReedSheets x, int sheet, int village, int count, String text) {
        due("sheet " + sheet, x.sheet(sheet, village, count), true);
        due("read " + text, read(x, sheet, text), 0);
    }

    private static ReedSheets twoHouses() {
        ReedSheets x = new ReedSheets();
        put(x, 0, 0, 0, OLD_HOUSE);
        put(x, 1, 0, 1, NEW_HOUSE);
        return x;
    }

    /** One MARRIAGE of each SORT, 0 to 4, wives in LINES 1, 3, 5, 7, 9. */
    private static final String ALL_SORTS =
            "man a 30 father f mother g;woman b 28 wife a father f mother g;"
            + "man c 31 father f mother g;woman d 27 wife c father f mother h;"
            + "man e 40;woman i 39 sister e wife e;"
            + "man j 41;woman k 38 sister j broken wife j;"
            + "man l 42 lodger;woman m 37 sister a wife l;";

    // ---- 1 to 7

    private static void newObject() {
        ReedSheets x = new ReedSheets();
        for (int what = 0; what <= 7; what++) {
            due("1: count(" + what + ") of a new one", x.count(what), 0);
        }
        due("1: count(8)", x.count(8), NONE);
        due("1: count(-1)", x.count(-1), NONE);
        for (int t = 0; t < 4; t++) {
            due("1: at(" + t + ", 200)", x.at(t, 200), 5000);
        }
        due("1: NONE", NONE, -1);
        due("1: next", x.next(), NONE);
        due("1: mover", x.mover(), NONE);
        due("1: bounds", x.bounds(0), NONE);
        due("1: fittest", x.fittest(), 0);
        due("1: left of all", x.left(NONE, 0, 0), 0);
        due("1: young", x.young(1, 2), 0);
    }

    private static void sides() {
        ReedSheets x = twoHouses();
        due("2: all on side 0", x.marriages(3, 0, NONE), 4);
        due("2: side(0, 1)", x.side(0, 1), true);
        due("2: none on side 0", x.marriages(3, 0, NONE), 0);
        due("2: all on side 1", x.marriages(3, 1, NONE), 4);
        due("2: side(5, 0)", x.side(5, 0), true);
        due("2: side(6, 0)", x.side(6, 0), false);
        due("2: side(-1, 0)", x.side(-1, 0), false);
        due("2: side(0, 2)", x.side(0, 2), false);
        due("2: side(0, -1)", x.side(0, -1), false);
        due("2: side 1 still", x.marriages(3, 1, NONE), 4);
        due("2: side(0, 0)", x.side(0, 0), true);
        due("2: back on side 0", x.marriages(3, 0, NONE), 4);
    }

    private static void sheets() {
        ReedSheets x = twoHouses();
        due("3: sheet(23, 5, 7)", x.sheet(23, 5, 7), true);
        due("3: sheet(24, 5, 7)", x.sheet(24, 5, 7), false);
        due("3: sheet(-1, 5, 7)", x.sheet(-1, 5, 7), false);
        due("3: sheet(2, 6, 7)", x.sheet(2, 6, 7), false);
        due("3: sheet(2, -1, 7)", x.sheet(2, -1, 7), false);
        due("3: sheet(2, 5, 8)", x.sheet(2, 5, 8), false);
        due("3: sheet(2, 5, -1)", x.sheet(2, 5, -1), false);
        due("3: three are told", x.count(0), 3);
        due("3: may", x.may(0, 7), true);
        due("3: told again", x.sheet(0, 3, 3), true);
        due("3: not READ", x.lines(0), NONE);
        due("3: two READ less one", x.count(1), 1);
        // 0 and 23 may have 2 each; 1 has 2 MARRIAGES.
        due("3: it may have 2 again", x.bounds(3), 6);
        due("3: of count 3", x.marriages(2, 3, NONE), 0);
        due("3: read again", read(x, 0, ALL_SORTS), 0);
        due("3: village 3", x.marriages(1, 3, NONE), 5);
        due("3: count 3", x.marriages(2, 3, NONE), 5);
    }

    private static void mays() {
        ReedSheets x = new ReedSheets();
        due("4: not told", x.may(0, 3), false);
        due("4: told", x.sheet(0, 0, 0), true);
        due("4: 0", x.may(0, 0), true);
        due("4: no marriage at all", x.bounds(0), NONE);
        due("4: 20", x.may(0, 20), true);
        due("4: 21", x.may(0, 21), false);
        due("4: -1", x.may(0, -1), false);
        due("4: sheet 24", x.may(24, 1), false);
        due("4: sheet -1", x.may(-1, 1), false);
        due("4: read", read(x, 0, "man a 20;woman b 20 wife a;"), 0);
        due("4: what a READ one may have is not asked", x.bounds(1), 1);
        due("4: of a READ one", x.may(0, 5), true);
        due("4: forget", x.forget(0), true);
        due("4: above", x.bounds(2), 1);
        due("4: it is held", x.may(0, 5), true);
        due("4: another one", x.sheet(1, 0, 0), true);
        due("4: read the other one", read(x, 1, "man a 20;woman b 20 wife a;"), 0);
        due("4: 5 of 6", x.bounds(2), 5);
        due("4: 5 of 6", x.bounds(3), 6);
    }

    private static void feeds() {
        ReedSheets x = new ReedSheets();
        due("5: left out", x.feed(0x00090A0B1F207E7FL, 0x80FFFFFFFFFFFFFFL, 0L), 3);
        due("5: count", x.count(6), 3);
        due("5: empty then", x.read(0), NONE);
        due("5: empty", x.count(6), 0);
        due("5: highest first", x.sheet(0, 0, 0), true);
        // "man a 7;" and "woman b " and "8;"
        due("5: 18 signs", x.feed(0x6D616E206120373BL, 0x776F6D616E206220L, 0x383B000000000000L), 18);
        due("5: read", x.read(0), 0);
        due("5: age", x.line(0, 1, 1), 8);
        StringBuilder text = new StringBuilder();
        for (int i = 0; i < 990; i++) {
            text.append(' ');
        }
        due("5: 990", Edges.feed(x, text.toString()), 990);
        due("5: beyond 1000", Edges.feed(x, "man a 9;;;;;;"), 1000);
        due("5: one more", x.feed(0x2020202020202020L, 0, 0), 1000);
        due("5: fault behind", x.read(0), 16 * 998 + 1);
        Edges.feed(x, text.toString());
        due("5: 1000 exactly", Edges.feed(x, "man aa 99;"), 1000);
        due("5: read", x.read(0), 0);
        due("5: age", x.line(0, 0, 1), 99);
    }

    /** Each on a new object: one is used for 512 calls at most. */
    private static void fault(String text, int kind, int place) {
        ReedSheets x = new ReedSheets();
        put(x, 0, 0, 0, "man was 5;");
        due("6: read '" + text + "'", read(x, 0, text), kind + 16 * place);
        due("6: it stays as it was", x.lines(0), 1);
        due("6: the TAPE is empty", x.count(6), 0);
    }

    private static void reads() {
        ReedSheets x = new ReedSheets();
        Edges.feed(x, "man a 5;");
        due("6: not told", x.read(0), NONE);
        due("6: tape gone", x.count(6), 0);
        Edges.feed(x, "man a 5;");
        due("6: no such", x.read(24), NONE);
        due("6: tape gone", x.count(6), 0);
        Edges.feed(x, "man a 5;");
        due("6: no such", x.read(-1), NONE);
        due("6: tape gone", x.count(6), 0);
        due("6: told", x.sheet(0, 0, 0), true);
        due("6: nothing", x.read(0), 0);
        due("6: no lines", x.lines(0), 0);
        due("6: blanks", read(x, 0, " \n "), 0);
        due("6: no blanks", read(x, 0, "man abcdefgh0father let;woman when0120mother abcdefgh wife abcdefgh;"), 0);
        due("6: two lines", x.lines(0), 2);
        due("6: age 0", x.line(0, 0, 1), 0);
        due("6: age 120", x.line(0, 1, 1), 120);
        due("6: many blanks", read(x, 0, "\nman\n\nz 7\n;  woman y 8 wife z sister z broken taken slave lodger father q mother r\n;\n"), 0);
        due("6: two lines", x.lines(0), 2);
        faultsOfTokens();
        faultsOfNames();
        due("6: twelve lines", read(x, 0, lines(12)), 0);
        due("6: twelve lines", x.lines(0), 12);
        fault(lines(12) + " man", 5, lines(12).length() + 1);
        fault(lines(12) + "woman", 5, lines(12).length());
        fault(lines(12) + "men", 1, lines(12).length());
        fault(lines(13), 5, lines(12).length());
    }

    private static String lines(int n) {
        StringBuilder text = new StringBuilder();
        for (int i = 0; i < n; i++) {
            text.append("man ").append((char) ('a' + i)).append(" 5;");
        }
        return text.toString();
    }

    private static void faultsOfTokens() {
        fault("man a 5", 1, 7);
        fault("man a 5  ", 1, 9);
        fault("man", 1, 3);
        fault("man ", 1, 4);
        fault("child a 5;", 1, 0);
        fault("5 man", 1, 0);
        fault(";", 1, 0);
        fault("man a 5;;", 1, 8);
        fault("man 5 a;", 1, 4);
        fault("man a b;", 1, 6);
        fault("man a 5 b;", 1, 8);
        fault("man a 5 6;", 1, 8);
        fault("man a 5 (", 1, 8);
        fault("man A 5;", 1, 4);
        fault("man a 5.", 1, 7);
        fault("man abcdefghi 5;", 1, 4);
        fault("man a 12345;", 1, 6);
        fault("man a 00005;", 1, 6);
        fault("man a 121;", 4, 6);
        fault("man a 9999;", 4, 6);
        fault("man a 5 man;", 1, 8);
        String[] reserved = {"father", "mother", "wife", "sister", "broken", "taken", "slave", "lodger", "man", "woman"};
        for (String word : reserved) {
            fault("man " + word + " 5;", 1, 4);
            fault("man a 5 father " + word + ";", 1, 15);
            fault("man a 5;woman b 5 wife " + word + ";", 1, 23);
        }
        fault("man a 5 father 5;", 1, 15);
        fault("man a 55555;", 1, 6);
        fault("man a 5", 1, 7);
        fault("man abcde 5;;", 1, 12);
        fault("man ab", 1, 6);
        fault("man a 5 mother;", 1, 14);
    }

    private static void faultsOfNames() {
        fault("woman a 5 wife b;", 2, 15);
        fault("woman a 5 wife a;", 2, 15);
        fault("woman a 5 sister a;", 2, 17);
        fault("woman a 5;woman b 5 wife a;", 2, 25);
        fault("woman b 5 wife a;man a 5;", 2, 15);
        fault("woman b 5 sister a;man a 5;", 2, 17);
        fault("man a 5;man b 6;woman a 7;", 3, 22);
        fault("man a 5;woman b 5 wife a;woman c 5 wife a;", 3, 40);
        fault("man a 5 father b father c;", 3, 17);
        fault("man a 5 mother b mother c;", 3, 17);
        fault("man a 5;woman b 5 wife a wife a;", 3, 25);
        fault("man a 5;woman b 5 sister a sister a;", 3, 27);
        fault("man a 5;woman b 5 sister a broken broken;", 3, 34);
        fault("man a 5 taken taken;", 3, 14);
        fault("man a 5 lodger slave lodger;", 3, 21);
        fault("man a 5;man b 5 wife a;", 6, 16);
        fault("woman a 5;man b 5 sister a;", 6, 18);
        fault("man a 5;woman b 5 broken sister a;", 6, 18);
        fault("man a 5 broken;", 6, 8);
    }

    private static void forgets() {
        ReedSheets x = twoHouses();
        due("7: forget", x.forget(0), true);
        due("7: twice", x.forget(0), false);
        due("7: told still", x.count(0), 2);
        due("7: read less", x.count(1), 1);
        due("7: not told", x.forget(2), false);
        due("7: 24", x.forget(24), false);
        due("7: -1", x.forget(-1), false);
        due("7: houses", x.count(3), 1);
    }

    // ---- 8 to 11

    private static void lineAnswers() {
        ReedSheets x = new ReedSheets();
        put(x, 3, 0, 0, "woman q 10;man a 5 father f mother g taken slave lodger;"
                + "woman b 15 wife a sister q broken father f;woman c 11 sister b mother g;man d 9;man e 120;");
        due("8: lines", x.lines(3), 6);
        due("8: not told", x.lines(4), NONE);
        due("8: 24", x.lines(24), NONE);
        due("8: -1", x.lines(-1), NONE);
        int[][] want = {
            {1, 10, 4, NONE, NONE, 0}, {0, 5, 0, NONE, NONE, 2 + 4 + 8 + 16 + 32}, {1, 15, 4, 1, 0, 1 + 16},
            {1, 11, 0, NONE, 2, 32}, {0, 9, 0, NONE, NONE, 0}, {0, 120, 4, NONE, NONE, 0}};
        for (int line = 0; line < want.length; line++) {
            for (int what = 0; what < 6; what++) {
                due("9: line(3, " + line + ", " + what + ")", x.line(3, line, what), want[line][what]);
            }
        }
        throwsNoSuch("9: line 6", () -> x.line(3, 6, 0));
        throwsNoSuch("9: line -1", () -> x.line(3, -1, 0));
        throwsNoSuch("9: what 6", () -> x.line(3, 0, 6));
        throwsNoSuch("9: what -1", () -> x.line(3, 0, -1));
        throwsNoSuch("9: sheet 4", () -> x.line(4, 0, 0));
        throwsNoSuch("9: sheet 24", () -> x.line(24, 0, 0));
        throwsNoSuch("9: sheet -1", () -> x.line(-1, 0, 0));
    }

    private static void kins() {
        ReedSheets x = new ReedSheets();
        put(x, 0, 0, 0, "man a 5 father f mother g;man b 5 father f mother g;man c 5 father f mother h;"
                + "man d 5 father i mother g;man e 5 father f;man i 5 mother g;man j 5;man k 5;man l 5 father g mother f;");
        due("10: full", x.kin(0, 0, 1), 2);
        due("10: by the father", x.kin(0, 0, 2), 1);
        due("10: by the mother", x.kin(0, 3, 0), 1);
        due("10: father alone", x.kin(0, 0, 4), 1);
        due("10: mother alone", x.kin(0, 5, 3), 1);
        due("10: neither", x.kin(0, 4, 5), 0);
        due("10: none has any", x.kin(0, 6, 7), 0);
        due("10: c and d", x.kin(0, 2, 3), 0);
        due("10: the other way round", x.kin(0, 0, 8), 0);
        due("10: same", x.kin(0, 3, 3), NONE);
        due("10: 9", x.kin(0, 3, 9), NONE);
        due("10: -1", x.kin(0, -1, 3), NONE);
        due("10: not read", x.kin(1, 0, 1), NONE);
        due("10: 24", x.kin(24, 0, 1), NONE);
    }

    private static void sorts() {
        ReedSheets x = new ReedSheets();
        put(x, 0, 0, 0, ALL_SORTS);
        for (int s = 0; s < 5; s++) {
            due("11: sort of " + s, x.sort(0, 2 * s + 1), s);
            due("11: of a man", x.sort(0, 2 * s), NONE);
            due("12: of sort " + s, x.marriages(0, 77, s), 1);
        }
        due("11: 10", x.sort(0, 10), NONE);
        due("11: -1", x.sort(0, -1), NONE);
        due("11: sheet 1", x.sort(1, 1), NONE);
        due("11: sheet 24", x.sort(24, 1), NONE);
        put(x, 1, 0, 0, "man a 5 father f mother g;woman b 5 sister a broken wife a father f mother g;"
                + "man c 5 father f;woman d 5 sister c wife c father f;woman e 6;man h 5;woman i 5 wife h sister e;");
        due("11: full though broken", x.sort(1, 1), 0);
        due("11: half though called", x.sort(1, 3), 1);
        due("11: another one's sister", x.sort(1, 6), 4);
        due("11: no wife", x.sort(1, 4), NONE);
    }

    // ---- 12 to 18

    private static void scopes() {
        ReedSheets x = new ReedSheets();
        put(x, 0, 0, 0, ALL_SORTS);
        put(x, 1, 1, 0, "man a 5;woman b 5 wife a;");
        put(x, 2, 1, 3, "man a 5;woman b 5 wife a sister a;");
        x.side(1, 1);
        due("12: all", x.marriages(0, -5, NONE), 7);
        due("12: village 0", x.marriages(1, 0, NONE), 5);
        due("12: village 1", x.marriages(1, 1, NONE), 2);
        due("12: village 5", x.marriages(1, 5, 4), 0);
        due("12: count 0", x.marriages(2, 0, NONE), 6);
        due("12: count 0, none", x.marriages(2, 0, 4), 2);
        due("12: count 7", x.marriages(2, 7, NONE), 0);
        due("12: side 1, called", x.marriages(3, 1, 2), 1);
        int[][] others = {{4, 0, 0}, {-1, 0, 0}, {1, 6, 0}, {1, -1, 0}, {2, 8, 0}, {2, -1, 0}, {3, 2, 0}, {3, -1, 0},
            {0, 0, 5}, {0, 0, -2}};
        for (int[] o : others) {
            due("12: others " + o[0] + " " + o[1] + " " + o[2], x.marriages(o[0], o[1], o[2]), NONE);
        }
        due("13: 0", 10 * x.share(0, 9, 0, 0) + x.share(0, 9, 0, 1), 17);
        due("13: 0 and 2", 10 * x.share(0, 9, 1, 0) + x.share(0, 9, 1, 1), 37);
        due("13: 0, 2 and 3", 10 * x.share(0, 9, 2, 0) + x.share(0, 9, 2, 1), 47);
        due("13: lowest terms", 10 * x.share(2, 0, 2, 0) + x.share(2, 0, 2, 1), 12);
        due("13: nought", 10 * x.share(1, 1, 0, 0) + x.share(1, 1, 0, 1), 1);
        due("13: side", 10 * x.share(3, 1, 1, 0) + x.share(3, 1, 1, 1), 12);
        due("13: none", x.share(1, 3, 0, 0), NONE);
        due("13: how 3", x.share(0, 0, 3, 0), NONE);
        due("13: how -1", x.share(0, 0, -1, 0), NONE);
        due("13: what 2", x.share(0, 0, 0, 2), NONE);
        due("13: what -1", x.share(0, 0, 0, -1), NONE);
        due("13: scope 4", x.share(4, 0, 0, 0), NONE);
        due("13: village 6", x.share(1, 6, 0, 0), NONE);
    }

    private static final String FULL_ONE = "man a 5 father f mother g;woman b 5 wife a father f mother g;";
    private static final String NO_ONE = "man a 5;woman b 5 wife a;";

    private static void moves() {
        ReedSheets x = new ReedSheets();
        put(x, 0, 0, 0, FULL_ONE);
        throwsNoSuch("14: none without it", () -> x.move(0, 0));
        due("15: none has one", x.mover(), NONE);
        put(x, 4, 1, 0, NO_ONE);
        // with both 1 of 2; without 0: 0; without 4: 1
        due("14: above", x.move(0, 0), -1);
        due("14: below", x.move(0, 1), 2);
        due("14: above", x.move(4, 0), 1);
        due("14: below", x.move(4, 1), 2);
        due("15: either way, the first", x.mover(), 0);
        put(x, 5, 1, 0, "man z 5;");
        due("14: nought", x.move(5, 0), 0);
        due("14: of 1", x.move(5, 1), 1);
        put(x, 6, 1, 0, NO_ONE);
        // with all 1 of 3; without 0: 0 of 2; without 4: 1 of 2
        due("14: above", x.move(0, 0), -1);
        due("14: below", x.move(0, 1), 3);
        due("14: above", x.move(6, 0), 1);
        due("14: below", x.move(6, 1), 6);
        due("15: the most", x.mover(), 0);
        x.forget(0);
        due("14: no share of SORT 0 moves", x.move(4, 0), 0);
        due("15: the first of those that move by nought", x.mover(), 4);
        throwsNoSuch("14: not read", () -> x.move(0, 0));
        throwsNoSuch("14: what 2", () -> x.move(4, 2));
        throwsNoSuch("14: what -1", () -> x.move(4, -1));
        throwsNoSuch("14: 24", () -> x.move(24, 0));
        throwsNoSuch("14: -1", () -> x.move(-1, 0));
        x.forget(4);
        x.forget(6);
        throwsNoSuch("14: no share with it", () -> x.move(5, 0));
        due("15: none", x.mover(), NONE);
    }

    private static void leans() {
        ReedSheets x = new ReedSheets();
        put(x, 0, 0, 0, FULL_ONE);
        throwsNoSuch("16: nothing on side 1", () -> x.lean(0));
        put(x, 1, 1, 0, NO_ONE);
        put(x, 2, 0, 0, NO_ONE);
        throwsNoSuch("16: nothing on side 1", () -> x.lean(1));
        x.side(1, 1);
        due("16: above", x.lean(0), 1);
        due("16: below", x.lean(1), 2);
        x.side(1, 0);
        x.side(0, 1);
        due("16: below nought", x.lean(0), -1);
        due("16: below", x.lean(1), 2);
        throwsNoSuch("16: what 2", () -> x.lean(2));
        throwsNoSuch("16: what -1", () -> x.lean(-1));
        x.forget(1);
        throwsNoSuch("16: nothing on side 0", () -> x.lean(0));
    }

    private static void boundsAndNext() {
        ReedSheets x = new ReedSheets();
        put(x, 0, 0, 0, FULL_ONE);
        due("17: all READ", x.bounds(0), 1);
        due("17: all READ", x.bounds(3), 1);
        due("18: all READ", x.next(), NONE);
        x.sheet(1, 0, 0);
        x.sheet(2, 1, 0);
        x.sheet(3, 1, 1);
        x.may(3, 0);
        // 1 of 1, and 4 more
        due("17: least", 10 * x.bounds(0) + x.bounds(1), 15);
        due("17: greatest", 10 * x.bounds(2) + x.bounds(3), 11);
        put(x, 4, 2, 0, NO_ONE);
        due("17: least", 10 * x.bounds(0) + x.bounds(1), 16);
        due("17: greatest", 10 * x.bounds(2) + x.bounds(3), 56);
        due("17: what 4", x.bounds(4), NONE);
        due("17: what -1", x.bounds(-1), NONE);
        due("18: the village with fewer", x.next(), 2);
        x.may(3, 2);
        due("18: the first", x.next(), 2);
        x.may(3, 3);
        due("18: the most", x.next(), 3);
        x.may(1, 20);
        due("18: the most", x.next(), 1);
        x.may(1, 3);
        put(x, 5, 1, 7, NO_ONE);
        due("18: as many MARRIAGES in both villages: the first", x.next(), 1);
        put(x, 6, 1, 7, "man a 5;");
        due("18: LINES are no MARRIAGES", x.next(), 1);
        put(x, 7, 0, 7, NO_ONE);
        due("18: the village with fewer", x.next(), 3);
    }

    // ---- 19 to 23

    private static void heapings() {
        ReedSheets x = new ReedSheets();
        put(x, 0, 0, 0, "man a 5;man b 9;man c 10;man d 11;man e 65;man f 69;man g 70;man h 0;man i 120;");
        due("19: 10 and 65 of four", 10 * x.heaping(0, 7, 0) + x.heaping(0, 7, 1), 52);
        put(x, 1, 1, 2, "man a 11;");
        due("19: nought", 10 * x.heaping(1, 1, 0) + x.heaping(1, 1, 1), 1);
        due("19: count", 10 * x.heaping(2, 2, 0) + x.heaping(2, 2, 1), 1);
        due("19: two of five", 10 * x.heaping(3, 0, 0) + x.heaping(3, 0, 1), 21);
        due("19: no such", x.heaping(1, 2, 0), NONE);
        due("19: side 1", x.heaping(3, 1, 0), NONE);
        due("19: scope", x.heaping(4, 0, 0), NONE);
        due("19: which", x.heaping(2, 8, 0), NONE);
        due("19: what 2", x.heaping(0, 0, 2), NONE);
        due("19: what -1", x.heaping(0, 0, -1), NONE);
    }

    private static void ones() {
        ReedSheets x = new ReedSheets();
        // born -20; a span of -22 to -18; -10
        put(x, 0, 0, 0, "man a 21 father f mother g;man b 20 father f mother g;woman c 9 father f mother g;"
                + "man d 30 father f;man e 31 father f mother g;man h 10 father f mother g;man i 5 father f mother g;");
        // count 1: born 14 - AGE
        put(x, 1, 0, 1, "man h 26 father f mother g;woman a 35 father f mother g;man b 38 father f mother g;"
                + "woman c 23 father f mother g;man d 44 father f;man e 45 father g mother f;man i 20 father f mother g;");
        due("20: not both men", x.one(0, 0, 1), NONE);
        due("20: -22 to -18 and -24", x.one(0, 1, 1), NONE);
        due("20: -9 and -9", x.one(0, 2, 1), 3);
        due("20: back", x.one(1, 3, 0), 2);
        due("20: no mother", x.one(0, 3, 1), NONE);
        due("20: other parents", x.one(0, 4, 1), NONE);
        due("20: -12 to -8 and -12", x.one(0, 5, 1), 0);
        due("20: -5 and -8 to -4", x.one(0, 6, 1), 6);
        due("20: itself", x.one(0, 2, 0), NONE);
        due("20: line 7", x.one(0, 7, 1), NONE);
        due("20: line -1", x.one(0, -1, 1), NONE);
        due("20: not read", x.one(0, 2, 2), NONE);
        due("20: not read", x.one(2, 2, 0), NONE);
        due("20: 24", x.one(0, 2, 24), NONE);
        due("20: -1", x.one(-1, 2, 0), NONE);
        put(x, 2, 1, 1, "woman c 23 father f mother g;");
        due("20: another village", x.one(0, 2, 2), NONE);
        put(x, 2, 0, 0, "woman c 9 father f mother g;");
        due("20: the same count", x.one(0, 2, 2), NONE);
        due("20: and of count 1", x.one(1, 3, 2), 0);
        put(x, 2, 0, 1, "man i 22 father f mother g;");
        due("20: -5 and -8", x.one(0, 6, 2), NONE);
        put(x, 2, 0, 1, "man b 33 father f mother g;");
        due("20: -22 to -18 and -19", x.one(0, 1, 2), 0);
    }

    private static String two(String a, String b, int age) {
        return "man " + a + " " + age + " father f mother g;woman " + b + " " + age + " father f mother g;";
    }

    private static void housesThatAreOne() {
        ReedSheets x = new ReedSheets();
        put(x, 0, 0, 0, two("a", "b", 1));
        put(x, 1, 0, 1, two("a", "b", 15));
        put(x, 2, 0, 0, two("a", "b", 2));
        due("21: one of two apart", x.house(0, 1), 1);
        // 15 at COUNT 1: -3 to 1, so both 1 and 2 at COUNT 0 meet it
        due("21: by a third one, of one COUNT", x.house(0, 2), 1);
        due("21: and with the third", x.house(2, 1), 1);
        due("46: one house", x.count(3), 1);
        put(x, 3, 0, 2, two("a", "c", 28));
        due("21: one LINE is not enough", x.house(0, 3), 0);
        due("46: two houses", x.count(3), 2);
        put(x, 4, 1, 1, two("a", "b", 15));
        due("21: another village", x.house(0, 4), 0);
        due("46: three houses", x.count(3), 3);
        due("21: the same", x.house(0, 0), NONE);
        due("21: not read", x.house(0, 9), NONE);
        due("21: 24", x.house(24, 0), NONE);
        due("21: -1", x.house(0, -1), NONE);
        x.forget(1);
        due("21: without the third", x.house(0, 2), 0);
        due("46: four houses", x.count(3), 4);
        put(x, 5, 0, 5, "");
        due("46: one without LINES, too", x.count(3), 5);
        chains();
    }

    private static void chains() {
        ReedSheets x = new ReedSheets();
        put(x, 9, 0, 0, two("a", "b", 1));
        put(x, 3, 0, 1, two("a", "b", 15) + two("c", "d", 1));
        put(x, 7, 0, 2, two("c", "d", 15) + two("e", "h", 1));
        put(x, 1, 0, 3, two("e", "h", 15));
        due("21: over two", x.house(9, 1), 1);
        due("21: over one", x.house(3, 1), 1);
        due("46: one house", x.count(3), 1);
    }

    private static void knowns() {
        ReedSheets x = new ReedSheets();
        String more = " father f mother g;";
        // -22 to -18; -21 (35 at 1 would be -23 to -19)
        put(x, 0, 0, 0, "man a 20" + more + "man b 7;man c 20" + more);
        put(x, 1, 0, 1, "man a 35" + more + "man c 32" + more);
        put(x, 2, 0, 2, "man a 48" + more + "man c 50" + more);
        put(x, 3, 0, 3, "man c 64" + more);
        due("22: first", x.known(0, 0, 0), -20);
        due("22: last", x.known(0, 0, 1), -20);
        due("22: -23 to -19 and -22 to -18 and -20", x.known(1, 0, 0), -20);
        due("22: its own alone", x.known(0, 1, 0), -7);
        due("22: its own alone", x.known(0, 1, 1), -7);
        // c: -22 to -18; 14 - 32 = -18; 28 - 50: -24 to -20; 42 - 64 = -22
        throwsNoSuch("22: -18 and -22 both meet it", () -> x.known(0, 2, 0));
        due("22: -18 meets it", x.known(1, 1, 0), -18);
        due("22: -24 to -20 and -22 to -18 and -22", x.known(2, 1, 0), -22);
        due("22: -24 to -20 and -22 to -18 and -22", x.known(2, 1, 1), -22);
        due("22: -22", x.known(3, 0, 1), -22);
        throwsNoSuch("22: what 2", () -> x.known(0, 0, 2));
        throwsNoSuch("22: what -1", () -> x.known(0, 0, -1));
        throwsNoSuch("22: line 3", () -> x.known(0, 3, 0));
        throwsNoSuch("22: line -1", () -> x.known(0, -1, 0));
        throwsNoSuch("22: sheet 4", () -> x.known(4, 0, 0));
        throwsNoSuch("22: sheet 24", () -> x.known(24, 0, 0));
        x.forget(3);
        x.forget(1);
        due("22: wider again", x.known(0, 2, 0), -22);
        due("22: wider again", x.known(0, 2, 1), -20);
    }

    private static void leftOut() {
        ReedSheets x = new ReedSheets();
        String both = " father fa mother mo;";
        String house = "man fa 31 father o mother p;woman mo 31 father o mother p;";
        put(x, 0, 0, 1, house + "man ha 3" + both);
        String later = "man fa 45 father o mother p;woman mo 45 father o mother p;";
        // COUNT 2 is the year 28, COUNT 1 is 14; 14 is 12 to 16 of AGE at COUNT 1
        put(x, 1, 0, 2, later + "man ha 17" + both + "woman su 15" + both + "woman pe 16" + both + "man no 14" + both
                + "man fo 17 father fa;woman mi 17 mother mo;woman di 17 father mo mother fa;man lo 40 father zz;"
                + "woman ye 13" + both);
        // su 15: 11 to 15, perhaps; pe 16: 12, surely; no 14: 14, not; fo, mi: 11, surely; di: no; lo: no; ye: no
        due("23: women surely", x.left(0, 1, 0), 2);
        due("23: women perhaps", x.left(0, 1, 1), 1);
        due("23: men surely", x.left(0, 0, 0), 1);
        due("23: men perhaps", x.left(0, 0, 1), 0);
        due("23: none of the later one", x.left(1, 1, 0) + x.left(1, 0, 0) + x.left(1, 1, 1) + x.left(1, 0, 1), 0);
        put(x, 2, 0, 3, later.replace("45", "59") + "woman su 29" + both + "woman pe 30" + both);
        // su was born in 13 at COUNT 3; pe was born in 12 or 10 to 14
        due("23: women surely, by what is KNOWN", x.left(0, 1, 0), 5);
        due("23: women perhaps, by what is KNOWN", x.left(0, 1, 1), 0);
        due("23: both are in the second one", x.left(1, 1, 0), 0);
        due("23: of all", x.left(NONE, 1, 0), 5);
        due("23: of all, men", x.left(NONE, 0, 0), 1);
        due("44: told", x.young(0, 0), 2);
        due("44: surely", x.young(0, 1), 3);
        due("44: told", x.young(1, 0), 1);
        due("44: surely", x.young(1, 1), 6);
        due("23: not read", x.left(3, 1, 0), NONE);
        due("23: 24", x.left(24, 1, 0), NONE);
        due("23: -2", x.left(-2, 1, 0), NONE);
        due("23: women 2", x.left(0, 2, 0), NONE);
        due("23: women -1", x.left(0, -1, 0), NONE);
        due("23: what 2", x.left(0, 1, 2), NONE);
        due("23: what -1", x.left(NONE, 1, -1), NONE);
        x.forget(2);
        due("44: perhaps, too", x.young(1, 2), 4);
        put(x, 0, 1, 1, house);
        due("23: of another house", x.left(0, 1, 0), 0);
        unknownIsNotLeftOut();
    }

    private static void unknownIsNotLeftOut() {
        ReedSheets x = new ReedSheets();
        String both = " father fa mother mo;";
        String pair = "man fa 31 father o mother p;woman mo 31 father o mother p;";
        put(x, 0, 0, 0, pair);
        // c: -22 to -18 at COUNT 1 (34 is no five: so 35: -23 to -19), -19 at 2, -23 at 3: nothing is KNOWN
        put(x, 1, 0, 1, pair.replace("31", "45") + "man c 35" + both);
        due("23: surely", x.left(0, 0, 0), 1);
        put(x, 2, 0, 2, "man c 47" + both);
        put(x, 3, 0, 3, "man c 65" + both);
        put(x, 4, 0, 4, "man c 79" + both);
        throwsNoSuch("23: nothing is KNOWN", () -> x.known(1, 2, 0));
        due("23: neither surely", x.left(0, 0, 0), 0);
        due("23: nor perhaps", x.left(0, 0, 1), 0);
    }

    // ---- 24 to 31

    private static void tables() {
        ReedSheets x = new ReedSheets();
        due("24: table", x.table(1, 3, 400), true);
        due("24: table", x.table(1, 4, 0), true);
        due("24: table", x.table(1, 16, 200), true);
        due("24: n 1001", x.table(1, 3, 1001), false);
        due("24: n -1", x.table(1, 3, -1), false);
        due("24: k 17", x.table(1, 17, 1), false);
        due("24: k -1", x.table(1, -1, 1), false);
        due("24: table 4", x.table(4, 0, 1), false);
        due("24: table -1", x.table(-1, 0, 1), false);
        due("25: at 14", x.at(1, 14), 1000 + 1600);
        due("25: at 15", x.at(1, 15), 2000);
        due("25: at 16", x.at(1, 16), 1600);
        due("25: at 20", x.at(1, 20), 0);
        due("25: at 79", x.at(1, 79), 1000 + 800);
        due("25: at 80", x.at(1, 80), 1000);
        due("25: at 81", x.at(1, 81), 1000);
        due("25: at 200", x.at(1, 200), 1000);
        due("25: at 201", x.at(1, 201), NONE);
        due("25: at -1", x.at(1, -1), NONE);
        due("25: table 4", x.at(4, 0), NONE);
        due("25: table -1", x.at(-1, 0), NONE);
        due("25: another table", x.at(2, 15), 5000);
        // LIVING: 2000, 2000, 1400, 400, 1000, ten times 2000, 1200, 200: 28200 in all
        due("28: life", x.life(1, 17, 0), 141);
        due("28: of", x.life(1, 17, 1), 2);
        due("28: below 3", 10 * x.life(1, 3, 0) + x.life(1, 3, 1), 272);
        due("28: below 16", 10 * x.life(0, 16, 0) + x.life(0, 16, 1), 801);
        due("28: below 0", 10 * x.life(1, 0, 0) + x.life(1, 0, 1), 1);
        due("28: below 18", x.life(1, 18, 0), NONE);
        due("28: below -1", x.life(1, -1, 0), NONE);
        due("28: table 4", x.life(4, 1, 0), NONE);
        due("28: what 2", x.life(1, 1, 2), NONE);
        due("28: what -1", x.life(1, 1, -1), NONE);
    }

    private static void fits() {
        ReedSheets x = new ReedSheets();
        for (int k = 0; k <= 16; k++) {
            x.table(2, k, 0);
            x.table(3, k, k < 15 ? 0 : 10);
        }
        put(x, 0, 0, 0, "man a 79;man b 80;man c 120;man d 75;");
        // table 3: LIVING 14: 10, 15: 20, 16: 10; LINES 15: 2, 16: 2
        due("26: from 15", x.fit(3, 15), Math.abs(2 * 30 - 20 * 4) + Math.abs(2 * 30 - 10 * 4));
        due("26: from 14", x.fit(3, 14), 40 + 0 + 40);
        due("26: from 0", x.fit(3, 0), 80);
        due("26: from 16", x.fit(3, 16), 0);
        due("26: nobody lives", x.fit(2, 0), 0);
        due("27: nobody lives", x.best(0), 2);
        x.table(2, 0, 1000);
        due("27: from 0", x.best(0), 3);
        due("27: from 16", x.best(16), 0);
        due("26: from 17", x.fit(0, 17), NONE);
        due("26: from -1", x.fit(0, -1), NONE);
        due("26: table 4", x.fit(4, 0), NONE);
        due("26: table -1", x.fit(-1, 0), NONE);
        due("27: from 17", x.best(17), NONE);
        due("27: from -1", x.best(-1), NONE);
    }

    private static void gapsAndCould() {
        ReedSheets x = new ReedSheets();
        due("29: 31", x.gap(31), NONE);
        due("29: -31", x.gap(-31), NONE);
        due("30: none", 10 * x.could(0, 20, 30, 0) + x.could(0, 20, 30, 1), 1);
        due("29: 30", x.gap(30), 1);
        due("29: -30", x.gap(-30), 2);
        due("46: gaps", x.count(4), 2);
        x.table(1, 16, 500);
        x.table(2, 0, 0);
        x.table(2, 1, 100);
        // 50 + 30: 2500 of 5000: a quarter; 50 - 30: a half
        due("30: 3 / 4 * 1 / 2 not", 10 * x.could(1, 50, 30, 0) + x.could(1, 50, 30, 1), 58);
        due("30: W 29", 10 * x.could(1, 50, 29, 0) + x.could(1, 50, 29, 1), 1);
        due("30: 29 - 30 is not asked", 10 * x.could(1, 29, 30, 0) + x.could(1, 29, 30, 1), 12);
        due("30: 30 - 30 is asked", 10 * x.could(0, 30, 30, 0) + x.could(0, 30, 30, 1), 34);
        due("30: 30 - 30 with none at 0", 10 * x.could(2, 30, 30, 0) + x.could(2, 30, 30, 1), 12);
        due("29: 7", x.gap(7), 3);
        due("29: 7 again", x.gap(7), 4);
        due("29: a fifth", x.gap(7), NONE);
        due("46: gaps", x.count(4), 4);
        x.table(3, 1, 999);
        x.table(3, 2, 999);
        // AGE 0: 7 twice: 4995 of 10000 each; 30: a half
        long not = 5005L * 5005L * 5000L;
        long gcd = gcd(1000000000000L - not, 1000000000000L);
        due("30: above", x.could(3, 0, 30, 0), (1000000000000L - not) / gcd);
        due("30: below", x.could(3, 0, 30, 1), 1000000000000L / gcd);
        // all four, and large parts: 120, 37 and 37 + 7
        for (int k = 0; k <= 16; k++) {
            x.table(3, k, 997);
        }
        long four = 5015L * 5015L * 5015L * 5015L;
        due("30: large above", x.could(3, 40, 30, 0), (10000000000000000L - four) / gcd(10000000000000000L - four, four));
        due("30: large below", x.could(3, 40, 30, 1), 10000000000000000L / gcd(10000000000000000L - four, four));
        due("30: age 120", x.could(0, 120, 30, 1), 16);
        due("30: age 121", x.could(0, 121, 30, 0), NONE);
        due("30: age -1", x.could(0, -1, 30, 0), NONE);
        due("30: w 31", x.could(0, 20, 31, 0), NONE);
        due("30: w -1", x.could(0, 20, -1, 0), NONE);
        due("30: table 4", x.could(4, 20, 30, 0), NONE);
        due("30: what 2", x.could(0, 20, 30, 2), NONE);
        due("30: what -1", x.could(0, 20, 30, -1), NONE);
    }

    private static long gcd(long a, long b) {
        return b == 0 ? a : gcd(b, a % b);
    }

    private static void sistersOfAll() {
        ReedSheets x = new ReedSheets();
        put(x, 0, 0, 0, "man a 50 father f mother g;woman b 9 wife a father f mother g;"
                + "man c 40 father f mother g;woman d 8 wife c father f mother g;man h 3;");
        put(x, 1, 1, 1, NO_ONE);
        due("31: no gaps", x.sisters(0, 5, 0), 0);
        due("31: more", x.sisters(0, 5, 1), 2);
        x.gap(2);
        x.table(1, 10, 500);
        x.table(1, 11, 500);
        x.table(1, 12, 500);
        // at 52 a quarter, at 42 and 7 a half: 1.25; 2 FULL ones are 0.75 above
        due("31: sum", x.sisters(1, 2, 0), 12500000000000000L);
        due("31: more, cut up", x.sisters(1, 2, 1), 1);
        due("31: w 1", x.sisters(1, 1, 0), 0);
        due("31: w 1, more", x.sisters(1, 1, 1), 2);
        x.forget(1);
        // 0.75; 1.25 above
        due("31: sum", x.sisters(1, 2, 0), 7500000000000000L);
        due("31: more, cut up", x.sisters(1, 2, 1), 2);
        // 1 in all; 1 above
        due("31: more, a whole one", x.sisters(0, 2, 1), 1);
        put(x, 1, 1, 1, ALL_SORTS);
        due("31: 7 halves", x.sisters(0, 2, 0), 35000000000000000L);
        due("31: 3 less 3.5", x.sisters(0, 2, 1), 0);
        due("31: w 31", x.sisters(0, 31, 0), NONE);
        due("31: w -1", x.sisters(0, -1, 0), NONE);
        due("31: table 4", x.sisters(4, 2, 0), NONE);
        due("31: table -1", x.sisters(-1, 2, 0), NONE);
        due("31: what 2", x.sisters(0, 2, 2), NONE);
        due("31: what -1", x.sisters(0, 2, -1), NONE);
    }

    // ---- 32, 33

    private static void takenIn() {
        ReedSheets x = new ReedSheets();
        put(x, 0, 0, 0, ALL_SORTS);
        // another man, c, is FULL with b; no man is with i
        due("32: not", x.taken(0, 1), 0);
        due("32: half", x.taken(0, 3), NONE);
        due("32: called, perhaps", x.taken(0, 5), 1);
        due("32: broken", x.taken(0, 7), NONE);
        due("32: none", x.taken(0, 9), NONE);
        due("32: a man", x.taken(0, 0), NONE);
        due("32: line 10", x.taken(0, 10), NONE);
        due("32: line -1", x.taken(0, -1), NONE);
        due("32: sheet 1", x.taken(1, 1), NONE);
        due("32: sheet 24", x.taken(24, 1), NONE);
        due("33: without those surely", 10 * x.born(false, 0) + x.born(false, 1), 15);
        due("33: without those perhaps, too", 10 * x.born(true, 0) + x.born(true, 1), 14);
        put(x, 1, 0, 0, "man a 5 father f mother g;woman b 5 wife a father f mother g taken;man c 6 father f mother g;"
                + "woman h 5 father f mother g;man d 5 taken;woman e 5 sister d wife d father f mother g;"
                + "man i 7;woman j 5 sister i wife i father f mother g;man k 7 taken;woman l 6 wife k;");
        due("32: she has taken", x.taken(1, 1), 2);
        due("32: he has taken", x.taken(1, 5), 2);
        due("32: called with a brother", x.taken(1, 7), 0);
        due("32: another sort", x.taken(1, 9), NONE);
        // FULL: 2 less 1; all: 9 less 2; less 1 more
        due("33: without those surely", 10 * x.born(false, 0) + x.born(false, 1), 17);
        due("33: without those perhaps, too", 10 * x.born(true, 0) + x.born(true, 1), 16);
        due("33: what 2", x.born(false, 2), NONE);
        due("33: what -1", x.born(true, -1), NONE);
        ReedSheets y = new ReedSheets();
        put(y, 0, 0, 0, FULL_ONE);
        due("33: none left", y.born(true, 0), NONE);
        due("33: one left", y.born(false, 0), 1);
    }

    // ---- 34 to 38

    private static void lawFault(String text, int kind, int place) {
        ReedSheets x = new ReedSheets();
        due("34: a LAW ahead", law(x, 0, "let when 1;let when 2;"), 0);
        due("34: law '" + text + "'", law(x, 0, text), kind + 16 * place);
        due("34: it stays as it was", x.count(5), 2);
        due("34: the TAPE is empty", x.count(6), 0);
    }

    private static void laws() {
        ReedSheets x = new ReedSheets();
        due("34: empty", x.law(0), 0);
        Edges.feed(x, "let when 1;");
        due("34: law 4", x.law(4), NONE);
        due("34: tape", x.count(6), 0);
        Edges.feed(x, "let when 1;");
        due("34: law -1", x.law(-1), NONE);
        due("34: tape", x.count(6), 0);
        String six = "let when 1;let when 2;let when 3;let when 4;let when 5;let when 6;";
        due("34: six", law(x, 3, six), 0);
        due("46: lines", x.count(5), 6);
        due("34: one", law(x, 0, "let when 9999;"), 0);
        due("46: lines", x.count(5), 7);
        lawFault(six + "let", 5, six.length());
        lawFault(six + "when", 1, six.length());
        lawFault("when 1;", 1, 0);
        lawFault("let", 1, 3);
        lawFault("let when ;", 1, 9);
        lawFault("let when", 1, 8);
        lawFault("let when 1", 1, 10);
        lawFault("let when 1 2;", 1, 11);
        lawFault("let when 1;;", 1, 11);
        lawFault("let when 10000;", 1, 9);
        lawFault("let when 1<2<3;", 1, 12);
        lawFault("let when 1=2=3;", 1, 12);
        lawFault("let when 1<2=3;", 1, 12);
        lawFault("let when -1;", 1, 9);
        lawFault("let when 1+;", 1, 11);
        lawFault("let when 1 and;", 1, 14);
        lawFault("let when (1;", 1, 11);
        lawFault("let when 1);", 1, 10);
        lawFault("let when ();", 1, 10);
        lawFault("let when not;", 1, 12);
        lawFault("let when 1 not 2;", 1, 11);
        lawFault("let when father;", 1, 9);
        lawFault("let when let;", 1, 9);
        lawFault("let when when;", 1, 9);
        lawFault("let when and;", 1, 9);
        lawFault("let when or 1;", 1, 9);
        lawFault("let when 1 and or 1;", 1, 15);
        lawFault("let when 1>2;", 1, 10);
        lawFault("let when Gap;", 1, 9);
        lawFault("let when (((((1)))));", 5, 14);
        lawFault("let when ((((((1))))));", 5, 14);
        lawFault("let when (((((;", 1, 14);
        lawFault("let when not not not not not 1;", 5, 29);
        lawFault("let when not not not not not not 1;", 5, 29);
        lawFault("let when not(not(not his));", 5, 21);
        lawFault("let when ((((1))))+(((((gap", 5, 24);
        due("34: four deep", law(x, 0, "let when ((((1))));let when not not not not 1;let when not(not(gap));"), 0);
        due("46: lines", x.count(5), 9);
        due("34: right behind", law(x, 0, "let when 1and 2or not 3;\nlet when 1<2and 3=3;"), 0);
        due("34: empty again", x.law(0), 0);
        due("46: lines", x.count(5), 6);
    }

    private static void value(ReedSheets x, String e, int want) {
        due("34: law", law(x, 1, "let when (" + e + ")=" + (want < 0 ? "0-" + -want : "" + want) + ";"), 0);
        due("35: " + e, x.lets(1, 2, 3), 1);
        due("34: law", law(x, 1, "let when " + e + ";"), 0);
        due("35: not 0: " + e, x.lets(1, 2, 3), want != 0 ? 1 : 0);
    }

    private static void letting() {
        ReedSheets x = new ReedSheets();
        put(x, 2, 4, 6, "man a 30 father f mother g;man b 20 father f mother g;woman c 10 father f mother g;"
                + "woman d 33 wife a father f mother g;man e 9;woman h 40 wife e;woman i 5 father f mother g;"
                + "man j 9 father f mother g;");
        x.side(4, 1);
        String[] facts = {"gap", "his", "hers", "full", "half", "called", "cracked", "adopted", "sons", "sisters",
            "village", "side", "count"};
        int[] want = {-3, 30, 33, 1, 0, 0, 0, 0, 2, 2, 4, 1, 6};
        for (int i = 0; i < facts.length; i++) {
            value(x, facts[i], want[i]);
        }
        value(x, "2+3*4", 14);
        value(x, "2*3+4", 10);
        value(x, "10-3-2", 5);
        value(x, "2*(3+4)", 14);
        value(x, "not 0", 1);
        value(x, "not 7", 0);
        value(x, "not 0*5", 5);
        value(x, "not(0*5)", 1);
        value(x, "1<2", 1);
        value(x, "2<2", 0);
        value(x, "2<1+1+1", 1);
        value(x, "2=1+1", 1);
        value(x, "3=1+1", 0);
        value(x, "5 and 7", 1);
        value(x, "5 and 0", 0);
        value(x, "0 or 7", 1);
        value(x, "0 or 0", 0);
        value(x, "1 or 1 and 0", 0);
        value(x, "0 and 1 or 1", 1);
        value(x, "1 or (1 and 0)", 1);
        value(x, "gap<0 and 1", 1);
        // 9999 ^ 3 wraps: 999700029999 modulo 2 ^ 32, above 2 ^ 31
        value(x, "9999*9999*9999<0", (int) (999700029999L) < 0 ? 1 : 0);
        value(x, "9999*9999*9999-9999*9999*9999", 0);
        value(x, "4096*4096*256", 0);
        value(x, "(((1+1)))*(2*(1+(0+1)))", 8);
        ReedSheets y = new ReedSheets();
        put(y, 2, 0, 0, ALL_SORTS);
        String[] bySort = {"full", "half", "called", "cracked"};
        for (int s = 0; s < 4; s++) {
            law(y, 0, "let when " + bySort[s] + "=1;");
            for (int k = 0; k < 5; k++) {
                due("35: " + bySort[s], y.lets(0, 2, 2 * k + 1), k == s ? 1 : 0);
            }
            due("36: all but one", y.fails(0), 4);
        }
        due("34: adopted", law(y, 0, "let when adopted=1;let when adopted=2;"), 0);
        due("35: perhaps", y.lets(0, 2, 5), 1);
        due("35: not", y.lets(0, 2, 1), 0);
        due("35: of another SORT 0", y.lets(0, 2, 7), 0);
        due("35: no wife", y.lets(0, 2, 0), NONE);
        due("35: line 10", y.lets(0, 2, 10), NONE);
        due("35: line -1", y.lets(0, 2, -1), NONE);
        due("35: sheet 3", y.lets(0, 3, 1), NONE);
        due("35: law 4", y.lets(4, 2, 1), NONE);
        due("35: law -1", y.lets(-1, 2, 1), NONE);
        due("35: an empty one", y.lets(3, 2, 1), 0);
    }

    private static void failing() {
        ReedSheets x = new ReedSheets();
        put(x, 2, 0, 0, ALL_SORTS);
        put(x, 3, 1, 0, FULL_ONE);
        due("36: an empty one fails all", x.fails(0), 6);
        due("37: the first", x.fittest(), 0);
        law(x, 1, "let when full;");
        law(x, 2, "let when half or called;");
        law(x, 3, "let when full and village;let when cracked;");
        due("36: full", x.fails(1), 4);
        due("36: half or called", x.fails(2), 4);
        due("36: two lines", x.fails(3), 4);
        due("37: of equal ones the first", x.fittest(), 1);
        law(x, 3, "let when 1;");
        due("37: the last", x.fittest(), 3);
        due("36: none", x.fails(3), 0);
        due("36: law 4", x.fails(4), NONE);
        due("36: law -1", x.fails(-1), NONE);
        due("38: the first, not the second", x.apart(3, 1), 4);
        due("38: the other way", x.apart(1, 3), 0);
        due("38: neither within the other", x.apart(1, 2), 2);
        due("38: the same", x.apart(1, 1), 0);
        due("38: law 4", x.apart(4, 0), NONE);
        due("38: law -1", x.apart(0, -1), NONE);
        due("38: law -1", x.apart(-1, 0), NONE);
        due("38: law 4", x.apart(0, 4), NONE);
    }

    // ---- 39, 40

    private static void worlds() {
        ReedSheets x = new ReedSheets();
        // Seed 0: DRAWS 0, 21468, 9988, 22117, 3498, .. : one child, a boy, of 45 - 4, alive.
        due("39: marriages", x.world(0, 1, 0, 0, 0, 0), 1);
        due("39: with sisters", x.world(0, 1, 0, 30, 10, 1), 0);
        due("39: 20 houses", x.world(3, 20, 1, 5, 7, 0), 27);
        due("39: 20 houses", x.world(3, 20, 1, 5, 7, 1), 12);
        for (int k = 0; k <= 16; k++) {
            x.table(2, k, 0);
        }
        due("39: nobody lives", x.world(3, 20, 2, 5, 7, 0), 0);
        // Seed 60: one boy, whose third DRAW is 3170.
        for (int n = 634; n <= 635; n++) {
            for (int k = 0; k <= 16; k++) {
                x.table(3, k, n);
            }
            due("39: alive if it is below AT", x.world(60, 1, 3, 0, 0, 0), n - 634);
        }
        // Seed 5344: the youngest of the 38th house is a boy of 15.
        due("39: 37 houses", x.world(5344, 37, 1, 0, 0, 0), 75);
        due("39: a man of 15", x.world(5344, 38, 1, 0, 0, 0), 78);
        due("39: odds 0", x.world(3, 40, 1, 30, 0, 1), 0);
        due("39: w 0", x.world(3, 40, 1, 0, 10, 1), 0);
        due("40: no READ MARRIAGE", x.rates(5, 5, 0, 5, 5), NONE);
        put(x, 0, 0, 0, NO_ONE);
        due("40: as many as", x.rates(20, 5, 0, 5, 0), 20);
        due("40: 1 seed", x.rates(1, 5, 0, 5, 5), 1);
        put(x, 0, 0, 0, FULL_ONE);
        due("40: never all", x.rates(20, 40, 0, 30, 10), 0);
        due("40: without any MARRIAGE", x.rates(7, 40, 2, 30, 10), 7);
        put(x, 1, 0, 0, NO_ONE);
        int so = 0;
        for (int seed = 0; seed < 20; seed++) {
            so += 2 * x.world(seed, 3, 0, 30, 9, 1) >= x.world(seed, 3, 0, 30, 9, 0) ? 1 : 0;
        }
        due("40: by the WORLDS themselves", x.rates(20, 3, 0, 30, 9), so);
        int[][] others = {{-1, 1, 0, 0, 0, 0}, {10000, 1, 0, 0, 0, 0}, {0, 0, 0, 0, 0, 0}, {0, 41, 0, 0, 0, 0},
            {0, 1, 4, 0, 0, 0}, {0, 1, -1, 0, 0, 0}, {0, 1, 0, 31, 0, 0}, {0, 1, 0, -1, 0, 0}, {0, 1, 0, 0, 11, 0},
            {0, 1, 0, 0, -1, 0}, {0, 1, 0, 0, 0, 2}, {0, 1, 0, 0, 0, -1}};
        for (int i = 0; i < others.length; i++) {
            int[] o = others[i];
            due("39: others " + i, x.world(o[0], o[1], o[2], o[3], o[4], o[5]), NONE);
            if (i >= 2 && i < 10) {
                due("40: others " + i, x.rates(1, o[1], o[2], o[3], o[4]), NONE);
            }
        }
        due("40: 0 seeds", x.rates(0, 1, 0, 0, 0), NONE);
        due("40: 21 seeds", x.rates(21, 1, 0, 0, 0), NONE);
    }

    // ---- 41 to 46

    private static void readingsOfAll() {
        ReedSheets x = new ReedSheets();
        due("41: none", x.readings(0), 0);
        due("41: none", x.readings(1), NONE);
        due("41: none", x.readings(6), NONE);
        due("43: none", x.says(1, 2), NONE);
        put(x, 3, 0, 0, ALL_SORTS);
        // FULL not taken in, HALF, CALLED perhaps, BROKEN, none: without the one SHEET there is none
        due("41: how many", x.readings(0), 9);
        int[][] want = {{1, 5}, {1, 5}, {1, 4}, {2, 5}, {2, 5}, {1, 4}, {3, 5}, {3, 5}, {1, 2}};
        for (int i = 0; i < want.length; i++) {
            due("42: above of " + i, x.reading(i, 0), want[i][0]);
            due("42: below of " + i, x.reading(i, 1), want[i][1]);
        }
        int[] told = {9, 1, 5, 0, 3, 5, 6};
        for (int what = 0; what <= 6; what++) {
            due("41: readings(" + what + ")", x.readings(what), told[what]);
        }
        due("41: 7", x.readings(7), NONE);
        due("41: -1", x.readings(-1), NONE);
        due("42: 9", x.reading(9, 0), NONE);
        due("42: -1", x.reading(-1, 0), NONE);
        due("42: what 2", x.reading(0, 2), NONE);
        due("42: what -1", x.reading(0, -1), NONE);
        due("43: in all", x.says(1, 5), 2);
        due("43: in all", x.says(19, 95), 2);
        due("43: in some", x.says(3, 5), 1);
        due("43: in some", x.says(20, 99), 1);
        due("43: in none", x.says(60, 99), 0);
        due("43: a -1", x.says(-1, 5), NONE);
        due("43: a 100", x.says(100, 5), NONE);
        due("43: b 0", x.says(0, 0), NONE);
        due("43: b 100", x.says(0, 100), NONE);
        put(x, 1, 0, 0, FULL_ONE);
        // FULL_ONE is TAKEN IN perhaps; SHEETS by numbers: 1, then 3
        due("41: how many", x.readings(0), 3 * (3 + 3 + 2));
        due("42: all", 10 * x.reading(0, 0) + x.reading(0, 1), 13);
        due("42: without 1", 10 * x.reading(1, 0) + x.reading(1, 1), 15);
        due("42: without 3", 10 * x.reading(2, 0) + x.reading(2, 1), 11);
        due("42: without those perhaps", 10 * x.reading(6, 0) + x.reading(6, 1), 14);
        due("42: without those perhaps, without 1", 10 * x.reading(7, 0) + x.reading(7, 1), 14);
        due("42: 0 and 2", 10 * x.reading(8, 0) + x.reading(8, 1), 12);
        allSheets();
        due("41: the greatest is the first", x.readings(6), 2);
        due("41: the least is the first", x.readings(3), 1);
    }

    private static void allSheets() {
        ReedSheets x = new ReedSheets();
        for (int s = 0; s < 24; s++) {
            put(x, s, s % 6, s % 8, s < 23 ? NO_ONE : "man a 5 taken;woman b 5 wife a sister a;");
        }
        due("41: all SHEETS", x.readings(0), 9 * 25);
        due("42: the last one, the CALLED one is left out", x.reading(224, 1), 1);
        due("42: the last one", x.reading(224, 0), 0);
        due("42: 0 and 2, all", 100 * x.reading(75, 0) + x.reading(75, 1), 124);
        due("42: 0 and 2, without 0", 100 * x.reading(76, 0) + x.reading(76, 1), 123);
        due("42: 225", x.reading(225, 0), NONE);
        due("41: the greatest", x.readings(6), 76);
        due("46: told", x.count(0), 24);
        due("46: houses", x.count(3), 24);
    }

    private static void youngOnes() {
        ReedSheets x = new ReedSheets();
        put(x, 0, 0, 0, "man a 14;man b 15;woman c 0;woman d 14;woman e 16;");
        put(x, 1, 3, 0, "man a 1;");
        due("44: men", x.young(0, 0), 2);
        due("44: women", x.young(1, 0), 2);
        due("44: men", x.young(0, 2), 2);
        due("44: women 2", x.young(2, 0), NONE);
        due("44: women -1", x.young(-1, 0), NONE);
        due("44: how 3", x.young(0, 3), NONE);
        due("44: how -1", x.young(0, -1), NONE);
        ReedSheets y = twoHouses();
        due("44: women told", y.young(1, 0), 0);
        due("44: with those left out", y.young(1, 1), 1);
        due("44: with those perhaps", y.young(1, 2), 1);
    }

    private static void marks() {
        ReedSheets x = twoHouses();
        x.sheet(2, 1, 4);
        x.may(2, 9);
        x.side(1, 1);
        x.side(0, 1);
        x.side(5, 1);
        due("45: nothing on it", x.mark(3, true), false);
        due("45: laid", x.mark(3, false), true);
        due("45: none such", x.mark(4, false), false);
        due("45: none such", x.mark(-1, true), false);
        put(x, 0, 2, 2, NO_ONE);
        x.may(2, 1);
        x.side(1, 0);
        x.side(0, 0);
        x.side(5, 0);
        x.sheet(5, 0, 0);
        x.forget(1);
        Edges.feed(x, "let when 1;");
        x.law(0);
        x.gap(3);
        x.table(0, 3, 5);
        Edges.feed(x, "abc");
        due("45: another one", x.mark(0, false), true);
        due("45: back", x.mark(3, true), true);
        due("45: told", x.count(0), 3);
        due("45: read", x.count(1), 2);
        due("45: lines", x.count(2), 11);
        due("45: houses", x.count(3), 1);
        due("45: left out again", x.left(0, 1, 0), 1);
        due("45: may", x.bounds(3), 13);
        due("45: village", x.marriages(1, 0, NONE), 4);
        due("45: gaps stay", x.count(4), 1);
        due("45: laws stay", x.count(5), 1);
        due("45: the TAPE stays", x.count(6), 3);
        due("45: tables stay", x.at(0, 15), 25);
        x.read(23);
        put(x, 2, 1, 4, NO_ONE);
        due("45: side 1", x.marriages(3, 1, NONE), 5);
        put(x, 3, 5, 4, NO_ONE);
        due("45: side 1", x.marriages(3, 1, NONE), 6);
        due("45: back to the other", x.mark(0, true), true);
        due("45: one READ", x.count(1), 1);
        due("45: of two LINES", x.lines(0), 2);
        due("45: told", x.count(0), 4);
        due("45: back once more", x.mark(3, true), true);
        due("45: read", x.count(1), 2);
        x.forget(0);
        due("45: laid over", x.mark(3, false), true);
        due("45: back", x.mark(3, true), true);
        due("45: as laid last", x.count(1), 1);
    }

    private static void counts() {
        ReedSheets x = twoHouses();
        due("46: a slave", x.count(7), 1);
        put(x, 2, 0, 0, ALL_SORTS);
        due("46: a lodger", x.count(7), 2);
        put(x, 3, 0, 0, "man a 5 slave;woman b 5 wife a lodger;man c 5;woman d 5 wife c slave;man e 5 slave;woman f 5 lodger;");
        due("46: he or she, each once", x.count(7), 4);
        due("46: told", x.count(0), 4);
        due("46: read", x.count(1), 4);
        due("46: lines", x.count(2), 5 + 6 + 10 + 6);
    }

    public static void main(String[] args) {
        newObject();
        sides();
        sheets();
        mays();
        feeds();
        reads();
        forgets();
        lineAnswers();
        kins();
        sorts();
        scopes();
        moves();
        leans();
        boundsAndNext();
        heapings();
        ones();
        housesThatAreOne();
        knowns();
        leftOut();
        tables();
        fits();
        gapsAndCould();
        sistersOfAll();
        takenIn();
        laws();
        letting();
        failing();
        worlds();
        readingsOfAll();
        youngOnes();
        marks();
        counts();
        System.out.println(wrong == 0 ? "all answers are as due" : wrong + " answers are not as due");
        if (wrong != 0) {
            System.exit(1);
        }
    }
}
