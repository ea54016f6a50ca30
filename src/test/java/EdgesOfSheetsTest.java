/** The edges of promises 1 to 9: SHEETS, the TAPE, its tokens and FAULTS, LINES. */
public final class EdgesOfSheetsTest {
    private static final int NONE = Edges.NONE;
    private static final int[] FAR = {Edges.MIN, Edges.MAX};
    private static final String[] TAGS = {"father p", "mother q", "wife a", "sister a", "broken", "taken", "slave", "lodger"};
    private static final String[] TAG_WORDS = {"father", "mother", "wife", "sister", "broken", "taken", "slave", "lodger"};
    private static final String[] NO_NAMES = {"father", "mother", "wife", "sister", "broken", "taken", "slave", "lodger",
        "man", "woman"};

    // ---- 1: a new object

    private static void ofNewObjects() {
        Edges.edge("1: no SHEET", () -> {
            ReedSheets x = new ReedSheets();
            for (int s = 0; s < 24; s++) {
                Edges.due("may " + s, x.may(s, 1), false);
                Edges.due("forget " + s, x.forget(s), false);
                Edges.due("lines " + s, x.lines(s), NONE);
                Edges.due("read " + s, x.read(s), NONE);
            }
            for (int what = 0; what < 4; what++) {
                Edges.due("count " + what, x.count(what), 0);
            }
        });
        Edges.edge("1: TABLES of lives without an end", () -> {
            ReedSheets x = new ReedSheets();
            for (int t = 0; t < 4; t++) {
                for (int age = 0; age <= 200; age += age < 100 ? 1 : 25) {
                    Edges.due("at " + t + " " + age, x.at(t, age), 5000);
                }
            }
        });
        Edges.edge("1: empty LAWS", () -> {
            ReedSheets x = Edges.with(Edges.FULL_ONE);
            Edges.due("lines of LAWS", x.count(5), 0);
            for (int law = 0; law < 4; law++) {
                Edges.due("lets " + law, x.lets(law, 0, 1), 0);
                Edges.due("fails " + law, x.fails(law), 1);
            }
        });
        Edges.edge("1: without GAPS, signs and MARKS", () -> {
            ReedSheets x = new ReedSheets();
            Edges.due("GAPS", x.count(4), 0);
            Edges.due("signs", x.count(6), 0);
            for (int mark = 0; mark < 4; mark++) {
                Edges.due("mark " + mark, x.mark(mark, true), false);
            }
        });
        Edges.edge("1: one object is not another one", () -> {
            ReedSheets x = Edges.with(Edges.FULL_ONE);
            x.mark(0, false);
            x.gap(3);
            x.table(0, 0, 0);
            Edges.law(x, 0, "let when 1;");
            ReedSheets y = new ReedSheets();
            Edges.due("told", y.count(0), 0);
            Edges.due("GAPS", y.count(4), 0);
            Edges.due("LAWS", y.count(5), 0);
            Edges.due("at", y.at(0, 0), 5000);
            Edges.due("mark", y.mark(0, true), false);
        });
        Edges.edge("used for at most 512 calls: the 512th answers", () -> {
            ReedSheets x = new ReedSheets();
            x.sheet(0, 0, 0);
            x.feed(0x6D616E206120373BL, 0, 0);
            x.read(0);
            for (int call = 4; call < 512; call++) {
                Edges.due("call " + call, x.lines(0), 1);
            }
            Edges.due("call 512", x.count(2), 1);
        });
    }

    // ---- 2: side

    /** A MARRIAGE in each VILLAGE. */
    private static ReedSheets sixVillages() {
        ReedSheets x = new ReedSheets();
        for (int v = 0; v < 6; v++) {
            Edges.put(x, v, v, 0, Edges.NO_ONE);
        }
        return x;
    }

    private static void ofSides() {
        Edges.edge("2: VILLAGES 0 to 5", () -> {
            ReedSheets x = sixVillages();
            for (int v = 0; v < 6; v++) {
                Edges.due("side of " + v, x.side(v, 1), true);
                Edges.due("on side 1", x.marriages(3, 1, NONE), v + 1);
                Edges.due("on side 0", x.marriages(3, 0, NONE), 5 - v);
            }
            Edges.due("VILLAGE 6", x.side(6, 1), false);
            Edges.due("VILLAGE -1", x.side(-1, 1), false);
            Edges.due("the least", x.side(Edges.MIN, 1), false);
            Edges.due("the greatest", x.side(Edges.MAX, 1), false);
        });
        Edges.edge("2: SIDE 0 or 1", () -> {
            ReedSheets x = sixVillages();
            Edges.due("1", x.side(3, 1), true);
            Edges.due("0", x.side(3, 0), true);
            Edges.due("back on side 0", x.marriages(3, 1, NONE), 0);
            Edges.due("2", x.side(3, 2), false);
            Edges.due("-1", x.side(3, -1), false);
            Edges.due("the least", x.side(3, Edges.MIN), false);
            Edges.due("the greatest", x.side(3, Edges.MAX), false);
        });
        Edges.edge("2: 0 at first", () -> Edges.due("on side 0", sixVillages().marriages(3, 0, NONE), 6));
        Edges.edge("2: what answers false changes nothing", () -> {
            ReedSheets x = sixVillages();
            x.side(3, 1);
            Edges.due("2", x.side(3, 2), false);
            Edges.due("-1", x.side(3, -1), false);
            Edges.due("VILLAGE 6", x.side(6, 1), false);
            Edges.due("on side 1", x.marriages(3, 1, NONE), 1);
            Edges.due("on side 0", x.marriages(3, 0, NONE), 5);
        });
    }

    // ---- 3: sheet

    private static void ofTelling() {
        Edges.edge("3: SHEETS 0 to 23", () -> {
            ReedSheets x = new ReedSheets();
            for (int s = 0; s < 24; s++) {
                Edges.due("sheet " + s, x.sheet(s, 0, 0), true);
                Edges.due("told", x.count(0), s + 1);
            }
            Edges.due("sheet 24", x.sheet(24, 0, 0), false);
            Edges.due("sheet -1", x.sheet(-1, 0, 0), false);
            Edges.due("the least", x.sheet(Edges.MIN, 0, 0), false);
            Edges.due("the greatest", x.sheet(Edges.MAX, 0, 0), false);
            Edges.due("told", x.count(0), 24);
        });
        Edges.edge("3: of a VILLAGE 0 to 5", () -> {
            ReedSheets x = new ReedSheets();
            for (int v = 0; v < 6; v++) {
                Edges.put(x, 7, v, 0, Edges.NO_ONE);
                Edges.due("of it", x.marriages(1, v, NONE), 1);
            }
            for (int v : new int[] {6, -1, Edges.MIN, Edges.MAX}) {
                Edges.due("VILLAGE " + v, x.sheet(7, v, 0), false);
            }
        });
        Edges.edge("3: of a COUNT 0 to 7", () -> {
            ReedSheets x = new ReedSheets();
            for (int c = 0; c < 8; c++) {
                Edges.put(x, 7, 0, c, Edges.NO_ONE);
                Edges.due("of it", x.marriages(2, c, NONE), 1);
            }
            for (int c : new int[] {8, -1, Edges.MIN, Edges.MAX}) {
                Edges.due("COUNT " + c, x.sheet(7, 0, c), false);
            }
        });
        Edges.edge("3: not READ at first", () -> {
            ReedSheets x = new ReedSheets();
            x.sheet(4, 0, 0);
            Edges.due("lines", x.lines(4), NONE);
            Edges.due("READ", x.count(1), 0);
            Edges.due("next", x.next(), 4);
        });
        Edges.edge("3: in place of what it was, not READ", () -> {
            ReedSheets x = Edges.with(Edges.NO_ONE);
            Edges.due("told anew", x.sheet(0, 1, 2), true);
            Edges.due("lines", x.lines(0), NONE);
            Edges.due("told once", x.count(0), 1);
            Edges.due("READ", x.count(1), 0);
            Edges.due("LINES", x.count(2), 0);
            Edges.due("read", Edges.read(x, 0, Edges.NO_ONE), 0);
            Edges.due("the VILLAGE that it was of", x.marriages(1, 0, NONE), 0);
            Edges.due("the COUNT that it was of", x.marriages(2, 0, NONE), 0);
            Edges.due("its VILLAGE", x.marriages(1, 1, NONE), 1);
            Edges.due("its COUNT", x.marriages(2, 2, NONE), 1);
        });
        Edges.edge("3: told anew as it was, it is not READ either", () -> {
            ReedSheets x = Edges.with(Edges.NO_ONE);
            Edges.due("told anew", x.sheet(0, 0, 0), true);
            Edges.due("lines", x.lines(0), NONE);
        });
        Edges.edge("3: it may have 2 MARRIAGES", () -> {
            ReedSheets x = new ReedSheets();
            x.sheet(0, 0, 0);
            x.may(0, 9);
            Edges.dueFraction("9", x.bounds(2), x.bounds(3), 1, 1);
            Edges.put(x, 1, 0, 0, Edges.NO_ONE);
            Edges.dueFraction("9 of 10", x.bounds(2), x.bounds(3), 9, 10);
            x.sheet(0, 0, 0);
            Edges.dueFraction("2 of 3", x.bounds(2), x.bounds(3), 2, 3);
        });
        Edges.edge("3: what answers false changes nothing", () -> {
            ReedSheets x = Edges.with(Edges.NO_ONE);
            x.sheet(1, 0, 0);
            x.may(1, 5);
            int[][] others = {{0, 6, 0}, {0, -1, 0}, {0, 0, 8}, {0, 0, -1}, {24, 0, 0}, {-1, 0, 0}, {1, 6, 0}, {1, 0, 8}};
            for (int[] o : others) {
                Edges.due("sheet", x.sheet(o[0], o[1], o[2]), false);
            }
            Edges.due("LINES", x.lines(0), 2);
            Edges.due("told", x.count(0), 2);
            Edges.dueFraction("it may have 5", x.bounds(2), x.bounds(3), 5, 6);
        });
    }

    // ---- 4: may

    private static void ofMay() {
        Edges.edge("4: 0 to 20", () -> {
            for (int n = 0; n <= 20; n++) {
                ReedSheets x = Edges.with(Edges.NO_ONE);
                x.sheet(1, 0, 0);
                Edges.due("may " + n, x.may(1, n), true);
                Edges.due("may have", x.bounds(3), n + 1);
            }
        });
        Edges.edge("4: false: others", () -> {
            ReedSheets x = Edges.with(Edges.NO_ONE);
            x.sheet(1, 0, 0);
            x.may(1, 6);
            for (int n : new int[] {21, -1, Edges.MIN, Edges.MAX}) {
                Edges.due("may " + n, x.may(1, n), false);
                Edges.due("as it was", x.bounds(3), 7);
            }
        });
        Edges.edge("4: false: not told", () -> {
            ReedSheets x = Edges.with(Edges.NO_ONE);
            Edges.due("not told", x.may(1, 6), false);
            x.sheet(1, 0, 0);
            Edges.due("2 all the same", x.bounds(3), 3);
            for (int s : new int[] {24, -1, Edges.MIN, Edges.MAX}) {
                Edges.due("SHEET " + s, x.may(s, 1), false);
            }
        });
        Edges.edge("4: 2 at first", () -> {
            ReedSheets x = Edges.with(Edges.NO_ONE);
            x.sheet(23, 5, 7);
            Edges.dueFraction("1 and 2", x.bounds(2), x.bounds(3), 2, 3);
        });
        Edges.edge("4: one that is not READ may have so many: a READ one counts what it has", () -> {
            ReedSheets x = Edges.with(Edges.NO_ONE);
            Edges.due("of a READ one", x.may(0, 9), true);
            Edges.dueFraction("one MARRIAGE", x.bounds(0), x.bounds(1), 0, 1);
            Edges.put(x, 1, 0, 0, Edges.NO_ONE);
            x.forget(0);
            Edges.dueFraction("it is kept", x.bounds(2), x.bounds(3), 9, 10);
            Edges.due("read again", Edges.read(x, 0, Edges.NO_ONE), 0);
            x.forget(0);
            Edges.dueFraction("it is kept", x.bounds(2), x.bounds(3), 9, 10);
        });
    }

    // ---- 5: feed

    private static void ofFeeding() {
        Edges.edge("5: the signs are 10 and 32 .. 126", () -> {
            for (int v = 0; v < 256; v++) {
                int n = v == 10 || v >= 32 && v <= 126 ? 1 : 0;
                ReedSheets x = new ReedSheets();
                for (int shift = 0; shift < 64; shift += 8) {
                    long row = (long) v << shift;
                    Edges.due("a: " + v, x.feed(row, 0, 0), n * (3 * shift / 8 + 1));
                    Edges.due("b: " + v, x.feed(0, row, 0), n * (3 * shift / 8 + 2));
                    Edges.due("c: " + v, x.feed(0, 0, row), n * (3 * shift / 8 + 3));
                }
            }
        });
        Edges.edge("5: up to 24 signs", () -> {
            ReedSheets x = new ReedSheets();
            Edges.due("24", x.feed(0x6161616161616161L, 0x6161616161616161L, 0x6161616161616161L), 24);
            Edges.due("24 more", x.feed(0x6161616161616161L, 0x6161616161616161L, 0x6161616161616161L), 48);
            Edges.due("none", x.feed(0, 0, 0), 48);
            Edges.due("none", x.feed(-1, -1, -1), 48);
            Edges.due("count", x.count(6), 48);
        });
        Edges.edge("5: of each the highest first, a ahead of b ahead of c", () -> {
            ReedSheets x = new ReedSheets();
            x.sheet(0, 0, 0);
            // "man a 1;" "man b 2;" "man c 3;"
            Edges.due("24", x.feed(0x6D616E206120313BL, 0x6D616E206220323BL, 0x6D616E206320333BL), 24);
            Edges.due("read", x.read(0), 0);
            for (int i = 0; i < 3; i++) {
                Edges.due("AGE", x.line(0, i, 1), i + 1);
            }
        });
        Edges.edge("5: they come behind the TAPE", () -> {
            ReedSheets x = new ReedSheets();
            x.sheet(0, 0, 0);
            String text = "man abc 120 father de;";
            for (int i = 0; i < text.length(); i++) {
                Edges.due("one sign", x.feed(0, 0, text.charAt(i)), i + 1);
            }
            Edges.due("read", x.read(0), 0);
            Edges.due("AGE", x.line(0, 0, 1), 120);
        });
        Edges.edge("5: what is left out leaves no gap", () -> {
            ReedSheets x = new ReedSheets();
            x.sheet(0, 0, 0);
            // m a n, blank, x, blank, 1, 9, ; with 0, 9, 11, 13, 31, 127, 128 and 255 between
            Edges.due("9 signs", x.feed(0x6D00610B6E0D201FL, 0x787F2080313900FFL, 0x093B000000000000L), 9);
            Edges.due("read", x.read(0), 0);
            Edges.due("AGE", x.line(0, 0, 1), 19);
        });
        ofFullTapes();
    }

    private static void ofFullTapes() {
        Edges.edge("5: the TAPE has at most 1,000 signs", () -> {
            ReedSheets x = new ReedSheets();
            Edges.due("999", Edges.feed(x, Edges.repeat("a", 999)), 999);
            Edges.due("those that are left out do not count", x.feed(0x0001020304050607L, 0x7F80FF0000000000L, 0), 999);
            Edges.due("two more", x.feed(0x6161L, 0, 0), 1000);
            Edges.due("one more", x.feed(0, 0, 0x61L), 1000);
            Edges.due("none more", x.feed(0, 0, 0), 1000);
            Edges.due("count", x.count(6), 1000);
        });
        Edges.edge("5: what is beyond 1,000 is left out, not what is ahead", () -> {
            ReedSheets x = new ReedSheets();
            x.sheet(0, 0, 0);
            Edges.feed(x, Edges.repeat(" ", 992));
            // "man a 6;" "man b 7;" "man c 8;"
            Edges.due("8 of 24", x.feed(0x6D616E206120363BL, 0x6D616E206220373BL, 0x6D616E206320383BL), 1000);
            Edges.due("read", x.read(0), 0);
            Edges.due("LINES", x.lines(0), 1);
            Edges.due("AGE", x.line(0, 0, 1), 6);
        });
        Edges.edge("5: the 1,000th sign is on the TAPE, the 1,001st is not", () -> {
            ReedSheets x = new ReedSheets();
            x.sheet(0, 0, 0);
            Edges.due("1000", Edges.feed(x, Edges.repeat("\n", 983) + "man abcdefgh 120;"), 1000);
            Edges.due("read", x.read(0), 0);
            Edges.due("1000 of 1001", Edges.feed(x, Edges.repeat("\n", 984) + "man abcdefgh 120;"), 1000);
            Edges.due("the end is at 1000", x.read(0), 1 + 16 * 1000);
        });
        Edges.edge("5: a TAPE that was full takes signs again when it was read", () -> {
            ReedSheets x = new ReedSheets();
            Edges.feed(x, Edges.repeat("a", 1000));
            x.read(0);
            Edges.due("anew", x.feed(0x6161L, 0, 0), 2);
        });
    }

    // ---- 6: what reads the TAPE takes it

    private static void ofTaking() {
        Edges.edge("6: READ: 0, the TAPE is empty", () -> {
            ReedSheets x = new ReedSheets();
            x.sheet(0, 0, 0);
            Edges.due("read", Edges.read(x, 0, "man a 5;"), 0);
            Edges.due("signs", x.count(6), 0);
        });
        Edges.edge("6: a FAULT: the TAPE is empty", () -> {
            ReedSheets x = new ReedSheets();
            x.sheet(0, 0, 0);
            Edges.due("read", Edges.read(x, 0, "man a;"), 1 + 16 * 5);
            Edges.due("signs", x.count(6), 0);
            Edges.due("nothing of it is left", Edges.read(x, 0, "man a 5;"), 0);
        });
        Edges.edge("6: a FAULT: it stays as it was", () -> {
            ReedSheets x = Edges.with(Edges.FULL_ONE);
            Edges.due("its first LINE would do", Edges.read(x, 0, "man z 33;man z 44;"), 3 + 16 * 13);
            Edges.due("LINES", x.lines(0), 2);
            Edges.due("AGE", x.line(0, 0, 1), 7);
            Edges.due("SORT", x.sort(0, 1), 0);
            Edges.due("READ", x.count(1), 1);
            x.sheet(1, 0, 0);
            Edges.due("of one not READ", Edges.read(x, 1, "man z 33;man z 44;"), 3 + 16 * 13);
            Edges.due("not READ", x.lines(1), NONE);
            Edges.due("next", x.next(), 1);
        });
        Edges.edge("6: -1: it is not told, the TAPE is empty", () -> {
            ReedSheets x = new ReedSheets();
            x.sheet(0, 0, 0);
            for (int s : new int[] {1, 23, 24, -1, Edges.MIN, Edges.MAX}) {
                Edges.due("read " + s, Edges.read(x, s, "man a 5;"), -1);
                Edges.due("signs", x.count(6), 0);
            }
            Edges.due("-1, though the text is wrong", Edges.read(x, 1, "man ("), -1);
            Edges.due("none is READ", x.count(1), 0);
        });
        Edges.edge("6: READ again, in place of what it was", () -> {
            ReedSheets x = Edges.with(Edges.FULL_ONE);
            Edges.due("read", Edges.read(x, 0, "man z 33;"), 0);
            Edges.due("LINES", x.lines(0), 1);
            Edges.due("AGE", x.line(0, 0, 1), 33);
            Edges.due("MARRIAGES", x.marriages(0, 0, NONE), 0);
            Edges.due("READ", x.count(1), 1);
        });
        Edges.edge("6: 12 LINES at most: none at all is a SHEET, too", () -> {
            for (String text : new String[] {"", " ", "\n", " \n \n "}) {
                ReedSheets x = Edges.with(text);
                Edges.due("LINES", x.lines(0), 0);
                Edges.due("READ", x.count(1), 1);
                Edges.due("HOUSES", x.count(3), 1);
            }
        });
        Edges.edge("6: 12 LINES", () -> {
            ReedSheets x = Edges.with(lines(12));
            Edges.due("LINES", x.lines(0), 12);
            Edges.due("the last one", x.line(0, 11, 1), 12);
        });
    }

    /** Men a, b, .. of 1, 2, .. years. */
    private static String lines(int n) {
        StringBuilder text = new StringBuilder();
        for (int i = 0; i < n; i++) {
            text.append("man ").append((char) ('a' + i)).append(' ').append(i + 1).append(';');
        }
        return text.toString();
    }

    private static void reads(String text) {
        ReedSheets x = new ReedSheets();
        x.sheet(0, 0, 0);
        Edges.due("'" + text + "'", Edges.read(x, 0, text), 0);
    }

    private static void fault(String text, int kind, int place) {
        ReedSheets x = Edges.with("man was 1;");
        Edges.due("'" + text + "'", Edges.read(x, 0, text), kind + 16 * place);
        Edges.due("it stays", x.lines(0), 1);
        Edges.due("the TAPE is empty", x.count(6), 0);
    }

    /** The FAULT is at the mark ~, which is no part of the text. */
    private static void fault(String marked, int kind) {
        int place = marked.indexOf('~');
        fault(marked.substring(0, place) + marked.substring(place + 1), kind, place);
    }

    // ---- 6: tokens

    private static void ofTokens() {
        Edges.edge("6: blanks (10, 32) between where one likes", () -> {
            reads("man a 1;woman b 2 wife a sister a broken taken;");
            reads("man a1;woman b2wife a sister a broken taken;");
            reads("man a\n1;woman\nb\n2\nwife\na\nsister\na\nbroken\ntaken\n;\n");
            reads("  man  a  1  ;  woman \n b \n\n 2 wife   a ;  \n ");
            reads("\n\nman a 1 ;");
        });
        Edges.edge("6: there must be one between two WORDS, and two NUMBERS: each is as long as can be", () -> {
            fault("~mana 1;", 1);
            fault("man a 1 ~takenslave;", 1);
            fault("man a 1 ~fatherb;", 1);
            fault("man a ~12012;", 1);
            fault("man a ~1201;", 4);
        });
        Edges.edge("6: no blank within a token", () -> {
            fault("~m an a 1;", 1);
            fault("man a ~b 1;", 1);
            fault("man a 1 ~2;", 1);
            fault("man a 1 ~sla ve;", 1);
        });
        Edges.edge("6: no other sign is a blank", () -> {
            for (char sign = 33; sign <= 126; sign++) {
                boolean letter = sign >= 'a' && sign <= 'z';
                boolean digit = sign >= '0' && sign <= '9';
                if (letter) {
                    fault("~man" + sign + "b 1;", 1);
                } else {
                    fault("man~" + sign + "b 1;", 1);
                }
                if (!digit) {
                    fault("man ~" + (letter ? "man" : sign + "b") + " 1;", 1);
                }
            }
        });
        Edges.edge("6: WORDS are letters a .. z", () -> {
            reads("man abcdefgh 1;man ijklmnop 1;man qrstuvwx 1;man yz 1;");
            for (char sign : new char[] {'`', '{', 'A', 'Z', '@', '[', '_', '\''}) {
                fault("man ~" + sign + " 1;", 1);
                fault("man a~" + sign + " 1;", 1);
            }
        });
        Edges.edge("6: WORDS, 8 at most", () -> {
            reads("man abcdefgh 1 father abcdefgh mother hgfedcba;woman b 1 wife abcdefgh sister abcdefgh;");
            fault("man ~abcdefghi 1;", 1);
            fault("man a 1 father ~abcdefghi;", 1);
            fault("man a 1;woman b 1 wife ~abcdefghi;", 1);
            fault("man a 1;woman b 1 sister ~abcdefghi;", 1);
            fault("~mannnnnnn a 1;", 1);
            fault("man a 1 ~takentaken;", 1);
            fault("man ~" + Edges.repeat("z", 990), 1);
        });
        Edges.edge("6: NAMES of 8 letters differ in the last one, too", () -> {
            ReedSheets x = Edges.with("man abcdefgh 1;man abcdefgi 2;man bbcdefgh 3;woman c 4 wife abcdefgi sister bbcdefgh;");
            Edges.due("husband", x.line(0, 3, 3), 1);
            Edges.due("by word", x.line(0, 3, 4), 2);
        });
        Edges.edge("6: a NAME is not one that it begins", () -> {
            ReedSheets x = Edges.with("man a 1;man aa 2;man b 3;man ab 4;woman aaa 5 wife aa sister ab;woman z 6 wife a sister b;");
            Edges.due("aa", x.line(0, 4, 3), 1);
            Edges.due("ab", x.line(0, 4, 4), 3);
            Edges.due("a", x.line(0, 5, 3), 0);
            Edges.due("b", x.line(0, 5, 4), 2);
        });
        ofNumbersAndSigns();
    }

    private static void ofNumbersAndSigns() {
        Edges.edge("6: NUMBERS of 1 to 4 digits", () -> {
            String[] texts = {"0", "7", "00", "07", "10", "000", "007", "120", "0000", "0007", "0120"};
            int[] ages = {0, 7, 0, 7, 10, 0, 7, 120, 0, 7, 120};
            for (int i = 0; i < texts.length; i++) {
                ReedSheets x = Edges.with("man a " + texts[i] + ";");
                Edges.due("AGE " + texts[i], x.line(0, 0, 1), ages[i]);
            }
            fault("man a ~00000;", 1);
            fault("man a ~00120;", 1);
            fault("man a ~12345;", 1);
            fault("man a ~" + Edges.repeat("1", 900) + ";", 1);
        });
        Edges.edge("6: NUMBERS are of the digits 0 to 9", () -> {
            ReedSheets x = Edges.with("man a 98;man b 76;man c 54;man d 32;man e 10;");
            for (int i = 0; i < 5; i++) {
                Edges.due("AGE", x.line(0, i, 1), 98 - 22 * i);
            }
            fault("man a ~/;", 1);
            fault("man a ~:;", 1);
            fault("man a 1~/;", 1);
            fault("man a 1~:;", 1);
        });
        Edges.edge("6: a letter may stand right behind a NUMBER", () -> {
            ReedSheets x = Edges.with("man a 0120taken;");
            Edges.due("AGE", x.line(0, 0, 1), 120);
            Edges.due("taken", x.line(0, 0, 5), 2);
            fault("man a 1~b;", 1);
            fault("man a ~12345b;", 1);
        });
        Edges.edge("6: a longer WORD or NUMBER is none at its first sign", () -> {
            fault("  ~abcdefghij", 1);
            fault("man a ~123456789;", 1);
            fault("man a 1 ~abcdefghi5;", 1);
        });
        Edges.edge("6: all else is none", () -> {
            for (char sign = 33; sign <= 126; sign++) {
                boolean letter = sign >= 'a' && sign <= 'z';
                boolean digit = sign >= '0' && sign <= '9';
                if (!letter && !digit) {
                    fault("~" + sign, 1);
                    fault("~" + sign + "man a 1;", 1);
                    fault("man ~" + sign + " a 1;", 1);
                    fault("man a ~" + sign + "1;", 1);
                    fault("man a 1;~" + sign, 1);
                    if (sign != ';') {
                        fault("man a 1~" + sign, 1);
                        fault("man a 1 slave~" + sign + ";", 1);
                    }
                }
            }
        });
    }

    // ---- 6: LINES, TAGS and NAMES

    private static void ofLinesAndTags() {
        Edges.edge("6: AGE 0 to 120", () -> {
            for (int age = 0; age <= 120; age++) {
                Edges.due("AGE", Edges.with("woman a " + age + ";").line(0, 0, 1), age);
            }
        });
        Edges.edge("6: 4 a NUMBER that is not as told", () -> {
            fault("man a ~121;", 4);
            fault("woman a ~121;", 4);
            fault("man a ~0121;", 4);
            fault("man a ~999;", 4);
            fault("man a ~9999;", 4);
            fault("man a ~1200taken;", 4);
            fault("man a 120;man b ~121;", 4);
            fault("man a ~121", 4);
        });
        Edges.edge("6: TAGS in any order, broken behind sister", EdgesOfSheetsTest::anyOrder);
        Edges.edge("6: TAGS each once at most: 3 a TAG a second time", () -> {
            String woman = "man a 1;man c 1;woman b 1 ";
            for (int i = 0; i < TAGS.length; i++) {
                String ahead = i == 4 ? "sister a " : "";
                String word = TAGS[i].split(" ")[0];
                String rest = TAGS[i].substring(word.length());
                fault(woman + ahead + TAGS[i] + " ~" + word + rest + ";", 3);
                fault(woman + ahead + TAGS[i] + " " + (i == 6 ? "lodger" : "slave") + " ~" + word + rest + ";", 3);
                fault(woman + ahead + TAGS[i] + " ~" + word, 3);
                if (i != 2 && i != 3 && i != 4) {
                    fault("man a 1 " + TAGS[i] + " ~" + word + rest + ";", 3);
                }
            }
            fault("man a 1;man c 1;woman b 1 wife a ~wife c;", 3);
            fault("man a 1;woman b 1 father a ~father c;", 3);
            reads("man a 1 taken;man b 1 taken;");
        });
        Edges.edge("6: a second time, behind all eight", () -> {
            String all = "man a 1;woman b 1 " + String.join(" ", TAGS);
            reads(all + ";");
            for (String word : TAG_WORDS) {
                fault(all + " ~" + word + ";", 3);
            }
            fault(all + " ~c;", 1);
            fault(all + "~", 1);
        });
        Edges.edge("6: a NAME is another WORD than the TAGS, man and woman", () -> {
            for (String word : NO_NAMES) {
                fault("man ~" + word + " 1;", 1);
                fault("woman ~" + word + " 1;", 1);
                fault("man a 1 father ~" + word + ";", 1);
                fault("man a 1 mother ~" + word + ";", 1);
                fault("man a 1;woman b 1 wife ~" + word + ";", 1);
                fault("man a 1;woman b 1 sister ~" + word + ";", 1);
                reads("man " + (word + "x").substring(0, Math.min(8, word.length() + 1)) + " 1;");
                reads("man " + word.substring(1) + "x 1 father x" + word + ";");
            }
            reads("man let 1;man when 1;man and 1;man or 1;man not 1;man gap 1;man full 1;man men 1;");
        });
        Edges.edge("6: father and mother are any NAME, one's own too", () ->
                reads("man a 1 father a mother a;woman b 1 father b mother zz;woman c 1 mother d;man d 1 father c;"));
    }

    /** All 40320 orders of the eight TAGS. */
    private static void anyOrder() {
        int[] order = {0, 1, 2, 3, 4, 5, 6, 7};
        ReedSheets x = null;
        for (int n = 0; n < 40320; n++) {
            if (n % 50 == 0) {
                x = new ReedSheets();
                x.sheet(0, 0, 0);
            }
            StringBuilder text = new StringBuilder("man a 1;woman b 1");
            int sister = -1;
            int broken = -1;
            for (int tag : order) {
                sister = tag == 3 ? text.length() + 1 : sister;
                broken = tag == 4 ? text.length() + 1 : broken;
                text.append(' ').append(TAGS[tag]);
            }
            int want = sister < broken ? 0 : 6 + 16 * broken;
            Edges.due(text.toString(), Edges.read(x, 0, text.append(';').toString()), want);
            if (want == 0) {
                Edges.due("bits", x.line(0, 1, 5), 63);
                Edges.due("husband", x.line(0, 1, 3), 0);
                Edges.due("by word", x.line(0, 1, 4), 0);
            }
            step(order);
        }
    }

    /** The next order in the row of all. */
    private static void step(int[] order) {
        int i = order.length - 2;
        while (i >= 0 && order[i] > order[i + 1]) {
            i--;
        }
        if (i < 0) {
            return;
        }
        int j = order.length - 1;
        while (order[j] < order[i]) {
            j--;
        }
        swap(order, i, j);
        for (int a = i + 1, b = order.length - 1; a < b; a++, b--) {
            swap(order, a, b);
        }
    }

    private static void swap(int[] order, int i, int j) {
        int kept = order[i];
        order[i] = order[j];
        order[j] = kept;
    }

    private static void ofWivesAndSisters() {
        Edges.edge("6: wife, of a woman: 6 of a man", () -> {
            fault("man a 1;man b 1 ~wife a;", 6);
            fault("man b 1 ~wife", 6);
            fault("man b 1 taken ~wife a;", 6);
        });
        Edges.edge("6: wife: 2 of no LINE ahead", () -> {
            fault("woman b 1 wife ~a;", 2);
            fault("woman b 1 wife ~b;", 2);
            fault("woman b 1 wife ~a;man a 1;", 2);
            fault("man c 1 father a;woman b 1 wife ~a;", 2);
            fault("man aa 1;woman b 1 wife ~a;", 2);
            fault("man a 1;woman b 1 wife ~aa;", 2);
        });
        Edges.edge("6: wife: 2 of no man", () -> {
            fault("woman a 1;woman b 1 wife ~a;", 2);
            fault("man c 1;woman a 1 wife c;woman b 1 wife ~a;", 2);
        });
        Edges.edge("6: wife: 3 a man who has a wife", () -> {
            fault("man a 1;woman b 1 wife a;woman c 1 wife ~a;", 3);
            fault("man a 1;man d 1;woman b 1 wife a;woman e 1 wife d;woman c 1 wife ~a;", 3);
            reads("man a 1;man d 1;woman b 1 wife d;woman c 1 wife a;");
        });
        Edges.edge("6: wife: the man of any LINE ahead", () -> {
            ReedSheets x = Edges.with("man a 1;woman q 1;man c 1;woman d 1 wife a;woman e 1 wife c;");
            Edges.due("the first", x.line(0, 3, 3), 0);
            Edges.due("the one right ahead but one", x.line(0, 4, 3), 2);
        });
        Edges.edge("6: sister, of a woman: 6 of a man", () -> {
            fault("woman a 1;man b 1 ~sister a;", 6);
            fault("man b 1 ~sister", 6);
        });
        Edges.edge("6: sister: 2 of no LINE ahead", () -> {
            fault("woman b 1 sister ~a;", 2);
            fault("woman b 1 sister ~b;", 2);
            fault("woman b 1 sister ~a;woman a 1;", 2);
            fault("woman c 1 mother a;woman b 1 sister ~a;", 2);
        });
        Edges.edge("6: sister: anyone of a LINE ahead", () -> {
            ReedSheets x = Edges.with("man a 1;woman b 1 wife a;woman c 1 sister a;woman d 1 sister b;woman e 1 sister a;");
            Edges.due("a man with a wife", x.line(0, 2, 4), 0);
            Edges.due("a woman", x.line(0, 3, 4), 1);
            Edges.due("one who has another sister", x.line(0, 4, 4), 0);
        });
        Edges.edge("6: broken: behind sister; 6 without sister ahead", () -> {
            reads("man a 1;woman b 1 sister a broken;");
            reads("man a 1;woman b 1 sister a taken wife a father c broken;");
            fault("man a 1;woman b 1 ~broken sister a;", 6);
            fault("man a 1;woman b 1 ~broken;", 6);
            fault("man a 1;woman b 1 wife a ~broken;", 6);
            fault("man a 1 ~broken;", 6);
            fault("man a 1;woman b 1 sister a;woman c 1 ~broken;", 6);
        });
        Edges.edge("6: 3 a LINE's NAME that another LINE has", () -> {
            fault("man a 1;man ~a 2;", 3);
            fault("man a 1;woman ~a 2;", 3);
            fault("woman a 1;man b 1;woman ~a", 3);
            fault(lines(11) + "man ~a 1;", 3);
            fault(lines(11) + "man ~k 1;", 3);
            reads("man a 1 father b mother c;man b 1;woman c 1;");
        });
        Edges.edge("6: 5 the word man, woman of a 13th LINE", () -> {
            fault(lines(12) + "~man z 1;", 5);
            fault(lines(12) + "~woman z 1;", 5);
            fault(lines(12) + " \n~man", 5);
            fault(lines(12) + "~man a 1;", 5);
            fault(lines(12) + "~child", 1);
            fault(lines(12) + "~;", 1);
            fault(lines(12) + "~5", 1);
            fault(lines(11) + "man z 1~", 1);
            reads(lines(12) + " \n ");
        });
    }

    // ---- 6: which FAULT

    private static void ofFaults() {
        Edges.edge("6: the end is a token at the text's length", () -> {
            String[] parts = {"man", "a", "1", "father", "f", "mother", "g", ";", "woman", "b", "2", "wife", "a", "sister", "a",
                "broken", "taken", "slave", "lodger"};
            StringBuilder text = new StringBuilder();
            for (String part : parts) {
                text.append(part);
                if (!part.equals(";")) {
                    fault(text.toString() + "~", 1);
                    fault(text.toString() + " \n ~", 1);
                }
                text.append(' ');
            }
            reads(text + ";");
        });
        Edges.edge("6: 1 what can't stand there: a LINE begins with man or woman", () -> {
            for (String token : new String[] {"a", "1", ";", "father", "taken", "let", "(", "121", "abcdefghi", "="}) {
                fault("~" + token, 1);
                fault("man a 1;~" + token, 1);
            }
        });
        Edges.edge("6: 1 what can't stand there: no NAME", () -> {
            for (String token : new String[] {"1", ";", "father", "man", "(", "121", "abcdefghi"}) {
                fault("man ~" + token, 1);
                fault("woman ~" + token, 1);
                fault("man a 1;woman b 1 father ~" + token, 1);
                fault("man a 1;woman b 1 mother ~" + token, 1);
                fault("man a 1;woman b 1 wife ~" + token, 1);
                fault("man a 1;woman b 1 sister ~" + token, 1);
            }
        });
        Edges.edge("6: 1 what can't stand there: no AGE", () -> {
            for (String token : new String[] {"b", ";", "father", "man", "(", "-", "12345"}) {
                fault("man a ~" + token, 1);
            }
        });
        Edges.edge("6: 1 what can't stand there: no TAG and no ;", () -> {
            for (String token : new String[] {"b", "1", "121", "man", "woman", "let", "(", ")", "<", "=", "+", "-", "*", "."}) {
                fault("man a 1 ~" + token, 1);
                fault("man a 1 slave ~" + token, 1);
                fault("man a 1 father f ~" + token, 1);
            }
        });
        Edges.edge("6: of the first token from the left", () -> {
            fault("man a ~121;woman b 1 wife c;", 4);
            fault("man a 1;man b 1 ~wife c;man (", 6);
            fault("woman b 1 wife ~c;man b 121;", 2);
            fault("man a 1;woman ~a 121 wife c;", 3);
            fault("man a 1 taken ~taken (;", 3);
            fault("woman b 1 ~broken wife c;", 6);
            fault(lines(12) + "~man a 121;", 5);
            fault("man a 1;woman b 1 sister ~c broken broken;", 2);
        });
        Edges.edge("6: of its FAULTS the least: 1, not what it would be elsewhere", () -> {
            fault("man ~121 1;", 1);
            fault("man a 1 ~121;", 1);
            fault("man a 1 father ~121;", 1);
            fault("man ~wife 1;", 1);
            fault("man ~broken 1;", 1);
            fault("man a 1 father ~wife;", 1);
            fault("man a 1 taken father ~taken;", 1);
            fault("man a 1;woman b 1 wife ~broken;", 1);
            fault("man a 1;woman b 1 wife a sister ~wife;", 1);
            fault(lines(11) + "man z 1 ~man;", 1);
        });
    }

    // ---- 7 to 9

    private static void ofForgetting() {
        Edges.edge("7: true; false: it was not", () -> {
            ReedSheets x = Edges.with(Edges.NO_ONE);
            Edges.due("READ", x.forget(0), true);
            Edges.due("not READ any more", x.lines(0), NONE);
            Edges.due("a second time", x.forget(0), false);
            Edges.due("not told", x.forget(1), false);
            x.sheet(1, 0, 0);
            Edges.due("told, not READ", x.forget(1), false);
            for (int s : new int[] {24, -1, Edges.MIN, Edges.MAX}) {
                Edges.due("SHEET " + s, x.forget(s), false);
            }
        });
        Edges.edge("7: a SHEET without LINES was READ, too", () -> {
            ReedSheets x = Edges.with("");
            Edges.due("forget", x.forget(0), true);
            Edges.due("READ", x.count(1), 0);
        });
        Edges.edge("7: it is told still", () -> {
            ReedSheets x = Edges.with(Edges.NO_ONE);
            x.forget(0);
            Edges.due("told", x.count(0), 1);
            Edges.due("next", x.next(), 0);
            Edges.due("read again", Edges.read(x, 0, Edges.NO_ONE), 0);
            Edges.due("MARRIAGES of its VILLAGE", x.marriages(1, 0, NONE), 1);
        });
    }

    private static void ofLines() {
        Edges.edge("8: how many; NONE: not READ", () -> {
            ReedSheets x = Edges.with("");
            Edges.due("none", x.lines(0), 0);
            Edges.put(x, 23, 0, 0, lines(12));
            Edges.due("twelve", x.lines(23), 12);
            x.sheet(1, 0, 0);
            Edges.due("told, not READ", x.lines(1), NONE);
            Edges.due("not told", x.lines(2), NONE);
            for (int s : new int[] {24, -1, Edges.MIN, Edges.MAX}) {
                Edges.due("SHEET " + s, x.lines(s), NONE);
            }
        });
        Edges.edge("9: what 0 to 5", () -> {
            ReedSheets x = Edges.with("man a 20;");
            int[] want = {0, 20, 4, NONE, NONE, 0};
            for (int what = 0; what < 6; what++) {
                Edges.due("what " + what, x.line(0, 0, what), want[what]);
            }
            for (int what : new int[] {6, -1, Edges.MIN, Edges.MAX}) {
                Edges.throwsNoSuch("what " + what, () -> x.line(0, 0, what));
            }
        });
        Edges.edge("9: what 0: 0 a man, 1 a woman", () -> {
            ReedSheets x = Edges.with("woman a 20;man b 20;woman c 20 wife b;");
            for (int i = 0; i < 3; i++) {
                Edges.due("line " + i, x.line(0, i, 0), 1 - i % 2);
            }
        });
        Edges.edge("9: NoSuchElementException: none such", () -> {
            ReedSheets x = Edges.with("man a 20;man b 21;");
            Edges.due("the last one", x.line(0, 1, 1), 21);
            for (int line : new int[] {2, 11, 12, -1, Edges.MIN, Edges.MAX}) {
                Edges.throwsNoSuch("line " + line, () -> x.line(0, line, 1));
            }
            x.sheet(1, 0, 0);
            for (int s : new int[] {1, 2, 23, 24, -1, Edges.MIN, Edges.MAX}) {
                Edges.throwsNoSuch("SHEET " + s, () -> x.line(s, 0, 1));
            }
            Edges.put(x, 1, 0, 0, "");
            Edges.throwsNoSuch("of a SHEET without LINES", () -> x.line(1, 0, 1));
            x.forget(0);
            Edges.throwsNoSuch("forgotten", () -> x.line(0, 0, 1));
        });
        Edges.edge("9: SPAN: 2 less to 2 more if it is 10 or more and divisible by 5, else itself", () -> {
            for (int age = 0; age <= 120; age++) {
                int want = age >= 10 && age % 5 == 0 ? 4 : 0;
                Edges.due("SPAN of " + age, Edges.with("man a " + age + ";").line(0, 0, 2), want);
            }
        });
        Edges.edge("9: NONE: of none", () -> {
            ReedSheets x = Edges.with("man a 1;woman b 1;woman c 1 wife a;woman d 1 sister a;");
            int[][] want = {{NONE, NONE}, {NONE, NONE}, {0, NONE}, {NONE, 0}};
            for (int i = 0; i < 4; i++) {
                Edges.due("whose wife", x.line(0, i, 3), want[i][0]);
                Edges.due("whose sister", x.line(0, i, 4), want[i][1]);
            }
        });
        Edges.edge("9: TAGS as bits, each alone", () -> {
            ReedSheets x = Edges.with("man a 1;woman b 1 sister a broken;man c 1 taken;man d 1 slave;man e 1 lodger;"
                    + "man h 1 father f;man i 1 mother g;woman j 1 wife a sister b;");
            int[] want = {0, 1, 2, 4, 8, 16, 32, 0};
            for (int i = 0; i < want.length; i++) {
                Edges.due("bits of " + i, x.line(0, i, 5), want[i]);
            }
        });
    }

    public static void main(String[] args) {
        ofNewObjects();
        ofSides();
        ofTelling();
        ofMay();
        ofFeeding();
        ofTaking();
        ofTokens();
        ofLinesAndTags();
        ofWivesAndSisters();
        ofFaults();
        ofForgetting();
        ofLines();
        Edges.end();
    }
}
