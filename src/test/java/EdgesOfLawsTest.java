/** The edges of promises 32 to 38: sons who were TAKEN IN, LAWS of marrying. */
public final class EdgesOfLawsTest {
    private static final int NONE = Edges.NONE;
    private static final int[] NO_SHEETS = {2, 23, 24, -1, Edges.MIN, Edges.MAX};
    private static final int[] NO_LAWS = {4, -1, Edges.MIN, Edges.MAX};
    private static final String FG = " father f mother g";
    private static final String[] FACTS = {"gap", "his", "hers", "full", "half", "called", "cracked", "adopted", "sons", "sisters",
        "village", "side", "count"};

    // ---- 32: taken

    /** Of a man a (LINE 0), his wife b (LINE 1) and others behind. */
    private static void taken(String he, String she, String others, int want) {
        ReedSheets x = Edges.with("man a 7" + he + ";woman b 7 wife a" + she + ";" + others);
        Edges.due("taken" + he + "," + she + "," + others, x.taken(0, 1), want);
    }

    private static void ofTaken() {
        Edges.edge("32: surely if he or she has taken", () -> {
            taken(FG + " taken", FG, "", 2);
            taken(FG, FG + " taken", "", 2);
            taken(" taken", " taken sister a", "", 2);
            taken("", " taken sister a", "", 2);
            taken(" taken", " sister a", "", 2);
        });
        Edges.edge("32: surely, though another man is FULL with her", () -> {
            taken(FG + " taken", FG, "man c 7" + FG + ";", 2);
            taken(FG, FG + " taken", "man c 7" + FG + ";", 2);
        });
        Edges.edge("32: another one's taken is not theirs", () -> taken(FG, FG, "woman c 7" + FG + " taken;man d 7 taken;", 1));
        Edges.edge("32: slave, lodger and broken are not taken", () -> {
            taken(FG + " slave lodger", FG + " slave lodger sister a broken", "", 1);
            taken(FG + " slave", FG + " lodger", "man c 7" + FG + ";", 0);
        });
        Edges.edge("32: perhaps if no other man of the SHEET is FULL with her", () -> {
            taken(FG, FG, "", 1);
            taken(FG, FG, "woman c 7" + FG + ";", 1);
            taken(FG, FG, "man c 7 father f;man d 7 mother g;man e 7;", 1);
            taken("", " sister a", "", 1);
            taken("", " sister a" + FG, "woman c 7" + FG + ";", 1);
            taken(FG, " sister a", "man c 7" + FG + ";", 1);
        });
        Edges.edge("32: else not", () -> {
            taken(FG, FG, "man c 7" + FG + ";", 0);
            taken("", " sister a" + FG, "man c 7" + FG + ";", 0);
            taken(FG, FG, "woman d 7;man e 7;man c 7" + FG + ";", 0);
        });
        Edges.edge("32: no other man of the SHEET, though one of another SHEET is", () -> {
            ReedSheets x = Edges.with("man a 7" + FG + ";woman b 7 wife a" + FG + ";");
            Edges.put(x, 1, 0, 0, "man c 7" + FG + ";woman d 7" + FG + ";");
            Edges.put(x, 2, 0, 1, "man c 21" + FG + ";woman d 21" + FG + ";");
            Edges.due("taken", x.taken(0, 1), 1);
        });
        Edges.edge("32: a man of a LINE ahead counts, too", () -> {
            ReedSheets x = Edges.with("man c 7" + FG + ";man a 7" + FG + ";woman b 7 wife a" + FG + ";");
            Edges.due("taken", x.taken(0, 2), 0);
        });
        Edges.edge("32: NONE: another SORT", () -> {
            taken(" father f taken", " father f taken sister a", "", NONE);
            taken(" taken", " taken sister a broken", "", NONE);
            taken(" taken", " taken", "", NONE);
        });
        Edges.edge("32: NONE: none such, no wife", () -> {
            ReedSheets x = Edges.with(Edges.FULL_ONE + "woman c 7" + FG + ";");
            Edges.due("hers", x.taken(0, 1), 1);
            Edges.due("his", x.taken(0, 0), NONE);
            Edges.due("no wife", x.taken(0, 2), NONE);
            for (int line : new int[] {3, 11, 12, -1, Edges.MIN, Edges.MAX}) {
                Edges.due("line " + line, x.taken(0, line), NONE);
            }
            x.sheet(2, 0, 0);
            for (int s : NO_SHEETS) {
                Edges.due("SHEET " + s, x.taken(s, 1), NONE);
            }
            x.forget(0);
            Edges.due("forgotten", x.taken(0, 1), NONE);
        });
    }

    // ---- 33: born

    private static void born(ReedSheets x, boolean perhaps, int above, int below) {
        Edges.dueFraction("born " + perhaps, x.born(perhaps, 0), x.born(perhaps, 1), above, below);
    }

    private static void ofBorn() {
        String surely = "man a 7" + FG + " taken;woman b 7 wife a" + FG + ";";
        String not = "man a 7" + FG + ";woman b 7 wife a" + FG + ";man c 7" + FG + ";";
        Edges.edge("33: MARRIAGES in which he was so surely (surely or perhaps) left out, above and below", () -> {
            ReedSheets x = Edges.with(surely);
            Edges.put(x, 1, 0, 0, Edges.FULL_ONE);
            Edges.put(x, 2, 0, 0, not);
            Edges.put(x, 3, 0, 0, Edges.weddings(1, 3, 4));
            born(x, false, 2, 5);
            born(x, true, 1, 4);
            Edges.put(x, 4, 0, 0, "man a 7 taken;woman b 7 wife a sister a;");
            Edges.put(x, 5, 0, 0, "man a 7;woman b 7 wife a sister a;");
            Edges.put(x, 6, 0, 0, "man a 7;woman b 7 wife a sister a" + FG + ";man c 7" + FG + ";");
            born(x, false, 2, 7);
            born(x, true, 1, 5);
        });
        Edges.edge("33: those of another SORT are not left out, though he has taken", () -> {
            ReedSheets x = Edges.with(not);
            Edges.put(x, 1, 0, 0, "man a 7 taken;woman b 7 wife a taken;");
            born(x, false, 1, 2);
            born(x, true, 1, 2);
        });
        Edges.edge("33: of all VILLAGES, COUNTS and SIDES", () -> {
            ReedSheets x = new ReedSheets();
            x.side(5, 1);
            Edges.put(x, 0, 5, 7, not);
            Edges.put(x, 1, 4, 6, Edges.NO_ONE);
            Edges.put(x, 2, 3, 5, surely);
            born(x, false, 1, 2);
            Edges.put(x, 1, 4, 6, Edges.weddings(4, 4));
            born(x, true, 1, 3);
        });
        Edges.edge("33: NONE: no MARRIAGE left", () -> {
            born(new ReedSheets(), false, NONE, NONE);
            born(new ReedSheets(), true, NONE, NONE);
            born(Edges.with("man a 7;"), true, NONE, NONE);
            born(Edges.with(surely), false, NONE, NONE);
            born(Edges.with(surely), true, NONE, NONE);
            born(Edges.with(Edges.FULL_ONE), false, 1, 1);
            born(Edges.with(Edges.FULL_ONE), true, NONE, NONE);
            born(Edges.with(not), true, 1, 1);
            born(Edges.with(Edges.NO_ONE), true, 0, 1);
        });
        Edges.edge("33: NONE: another what", () -> {
            ReedSheets x = Edges.with(not);
            for (int what : new int[] {2, -1, Edges.MIN, Edges.MAX}) {
                Edges.due("what " + what, x.born(false, what), NONE);
                Edges.due("what " + what, x.born(true, what), NONE);
            }
        });
    }

    // ---- 34: law

    private static void reads(String text, int lines) {
        ReedSheets x = new ReedSheets();
        Edges.due("'" + text + "'", Edges.law(x, 2, text), 0);
        Edges.due("lines", x.count(5), lines);
        Edges.due("the TAPE is empty", x.count(6), 0);
    }

    private static void reads(String text) {
        reads("let when " + text + ";", 1);
    }

    /** The FAULT is at the mark ~, which is no part of the text. */
    private static void fault(String marked, int kind) {
        int place = marked.indexOf('~');
        String text = marked.substring(0, place) + marked.substring(place + 1);
        ReedSheets x = Edges.with(Edges.FULL_ONE);
        Edges.due("a LAW ahead", Edges.law(x, 2, "let when 0;let when 1;let when 0;"), 0);
        Edges.due("'" + text + "'", Edges.law(x, 2, text), kind + 16 * place);
        Edges.due("it stays as it was", x.count(5), 3);
        Edges.due("it stays as it was", x.lets(2, 0, 1), 1);
        Edges.due("the TAPE is empty", x.count(6), 0);
    }

    private static void ofLawsAtAll() {
        Edges.edge("34: LAWS 0 to 3; -1: no such one (the TAPE is empty)", () -> {
            ReedSheets x = new ReedSheets();
            for (int law = 0; law < 4; law++) {
                Edges.due("law " + law, Edges.law(x, law, "let when 1;"), 0);
                Edges.due("lines", x.count(5), law + 1);
                Edges.due("signs", x.count(6), 0);
            }
            for (int law : NO_LAWS) {
                Edges.due("law " + law, Edges.law(x, law, "let when 1;"), -1);
                Edges.due("signs", x.count(6), 0);
                Edges.due("law " + law, Edges.law(x, law, "let ("), -1);
                Edges.due("signs", x.count(6), 0);
            }
            Edges.due("lines", x.count(5), 4);
        });
        Edges.edge("34: any number of lines: none is a LAW, too", () -> {
            for (String text : new String[] {"", " ", "\n \n"}) {
                ReedSheets x = Edges.with(Edges.FULL_ONE);
                Edges.due("one that lets", Edges.law(x, 0, "let when 1;"), 0);
                Edges.due("lets", x.lets(0, 0, 1), 1);
                Edges.due("an empty one", Edges.law(x, 0, text), 0);
                Edges.due("lets", x.lets(0, 0, 1), 0);
                Edges.due("lines", x.count(5), 0);
            }
        });
        Edges.edge("34: 6 at most: 5 let of a seventh", () -> {
            for (int n = 1; n <= 6; n++) {
                reads(Edges.repeat("let when " + n + ";", n), n);
            }
            String six = Edges.repeat("let when 1;", 6);
            fault(six + "~let when 1;", 5);
            fault(six + "~let", 5);
            fault(six + " ~let (", 5);
            fault(six + "~when", 1);
            fault(six + "~;", 1);
            fault(six + "~1", 1);
            fault(Edges.repeat("let when 1;", 5) + "let when 1~", 1);
            reads(six + " \n ", 6);
        });
        Edges.edge("34: read again in place of what it was, each for itself", () -> {
            ReedSheets x = Edges.with(Edges.FULL_ONE);
            Edges.law(x, 0, "let when 0;let when 1;");
            Edges.law(x, 3, "let when 1;");
            Edges.due("lines", x.count(5), 3);
            Edges.law(x, 0, "let when 0;");
            Edges.due("lines", x.count(5), 2);
            Edges.due("lets", x.lets(0, 0, 1), 0);
            Edges.due("the other one", x.lets(3, 0, 1), 1);
        });
        Edges.edge("34: a TAPE of 1,000 signs", () -> {
            ReedSheets x = Edges.with(Edges.FULL_ONE);
            String text = "let when 1" + Edges.repeat("+1", 492) + "=493;";
            Edges.due("999 signs", text.length(), 999);
            Edges.due("law", Edges.law(x, 0, text + "\n"), 0);
            Edges.due("lets", x.lets(0, 0, 1), 1);
            Edges.due("without its end", Edges.law(x, 0, "  " + text), 1 + 16 * 1000);
            text = "let when 0" + Edges.repeat(" or 0", 196) + " or 1;";
            Edges.due("law", Edges.law(x, 0, text), 0);
            Edges.due("lets", x.lets(0, 0, 1), 1);
        });
        Edges.edge("34: blanks between where one likes", () -> {
            reads("let\nwhen\n1\n;\nlet when gap<10and his=3or not(hers+1)*2-3<4;", 2);
            reads("let when 1and 1or 1;", 1);
            reads("let when(1)and(1)or not(1);", 1);
            reads("  let  when  not  1  ;  ", 1);
            fault("~letwhen 1;", 1);
            fault("let ~whena 1;", 1);
            fault("let when ~notgap;", 1);
            fault("let when 1 ~andor 1;", 1);
        });
    }

    private static void ofLawTokens() {
        Edges.edge("34: a PART: a NUMBER of 1 to 4 digits", () -> {
            for (String number : new String[] {"0", "0000", "9999", "121", "7"}) {
                reads(number);
            }
            fault("let when ~12345;", 1);
            fault("let when ~00001;", 1);
            fault("let when 1+~10000;", 1);
        });
        Edges.edge("34: a PART: a fact", () -> {
            for (String fact : FACTS) {
                reads(fact);
                fault("let when ~x" + fact + ";", 1);
                fault("let when ~" + fact.substring(1) + ";", 1);
                fault("let when ~" + fact.substring(0, fact.length() - 1) + ";", 1);
            }
            for (String word : new String[] {"man", "woman", "wife", "taken", "broken", "sort", "son", "abcdefgh", "abcdefghi"}) {
                fault("let when ~" + word + ";", 1);
            }
        });
        Edges.edge("34: 1 what can't stand there: a line begins with let, when", () -> {
            for (String token : new String[] {"when", "1", ";", "gap", "man", "(", "not", "abcdefghi", "!"}) {
                fault("~" + token, 1);
                fault("let when 1;~" + token, 1);
            }
            for (String token : new String[] {"let", "1", ";", "gap", "(", "not", "."}) {
                fault("let ~" + token, 1);
            }
            fault("let~", 1);
            fault("let ~", 1);
        });
        Edges.edge("34: 1 what can't stand there: no PART", () -> {
            String[] tokens = {";", ")", "and", "or", "<", "=", "+", "-", "*", "let", "when", "man", "ful", "abcdefghi", "12345",
                "!", ">"};
            for (String begin : new String[] {"", "1+", "1-", "1*", "1<", "1=", "1 and ", "1 or ", "not ", "(", "(1+"}) {
                for (String token : tokens) {
                    fault("let when " + begin + "~" + token, 1);
                }
                fault("let when " + begin + "~", 1);
                fault("let when " + begin + " ~", 1);
            }
        });
        Edges.edge("34: 1 what can't stand there: behind a PART", () -> {
            for (String part : new String[] {"1", "gap", "not 1", "(1)", "1+1", "1<1", "1 and 1"}) {
                for (String token : new String[] {"1", "gap", "not", "(", ")", "let", "when", "man", "!", "abcdefghi", "12345"}) {
                    fault("let when " + part + " ~" + token, 1);
                }
                fault("let when " + part + "~", 1);
                fault("let when (" + part + "~;", 1);
                fault("let when (" + part + " ~let", 1);
                fault("let when (" + part + "~", 1);
                reads("(" + part + ")");
            }
        });
        Edges.edge("34: TEST: SUM, or SUM < SUM, or SUM = SUM, once", () -> {
            for (String first : new String[] {"<", "="}) {
                for (String second : new String[] {"<", "="}) {
                    fault("let when 1" + first + "2~" + second + "3;", 1);
                    fault("let when (1" + first + "2~" + second + "3);", 1);
                    fault("let when 1 and 1" + first + "2~" + second + "3;", 1);
                    fault("let when 1" + first + "~" + second + "3;", 1);
                    reads("1" + first + "2 and 2" + second + "3");
                    reads("(1" + first + "2)" + second + "3");
                    reads("1" + first + "(2" + second + "3)");
                }
            }
        });
        Edges.edge("34: of the first token from the left", () -> {
            fault("let when 1 ~let let;", 1);
            fault("let when (((((~1 let", 5);
            fault("let ~1 (((((1", 1);
            fault(Edges.repeat("let when 1;", 6) + "~let (", 5);
        });
        Edges.edge("34: the end is a token at the text's length", () -> {
            String[] parts = {"let", "when", "not", "(", "gap", "+", "1", "<", "2", "*", "3", ")", "and", "1", "or", "his", ";", "let"};
            StringBuilder text = new StringBuilder();
            for (String part : parts) {
                text.append(part);
                if (!part.equals(";")) {
                    fault(text + "~", 1);
                    fault(text + " \n ~", 1);
                }
                text.append(' ');
            }
        });
    }

    // ---- 34: no PART lies within 5 of not and ( )

    /** Openers by the bits of a number: not, or (. */
    private static String open(int bits, int depth) {
        StringBuilder text = new StringBuilder();
        for (int i = 0; i < depth; i++) {
            text.append((bits >> i & 1) == 0 ? "(" : "not ");
        }
        return text.toString();
    }

    private static String close(int bits, int depth) {
        return Edges.repeat(")", depth - Integer.bitCount(bits));
    }

    private static void ofDepth() {
        Edges.edge("34: a PART may lie within 4 others", () -> {
            for (int depth = 0; depth <= 4; depth++) {
                for (int bits = 0; bits < 1 << depth; bits++) {
                    reads(open(bits, depth) + "1" + close(bits, depth));
                    reads(open(bits, depth) + "gap+1 and 2<3" + close(bits, depth));
                }
            }
        });
        Edges.edge("34: 5 a NUMBER or a fact within 5 others", () -> {
            for (int bits = 0; bits < 32; bits++) {
                fault("let when " + open(bits, 5) + "~1" + close(bits, 5) + ";", 5);
                fault("let when " + open(bits, 5) + "~gap", 5);
            }
        });
        Edges.edge("34: 5 not, or ( , within 5 others", () -> {
            for (int bits = 0; bits < 32; bits++) {
                fault("let when " + open(bits, 5) + "~not 1" + close(bits, 5) + ";", 5);
                fault("let when " + open(bits, 5) + "~(1" + close(bits, 5) + ");", 5);
                fault("let when " + open(bits, 5) + "~not", 5);
                fault("let when " + open(bits, 5) + "~(", 5);
            }
        });
        Edges.edge("34: within 5 others what is no PART is 1, as it is the least", () -> {
            for (int bits = 0; bits < 32; bits++) {
                for (String token : new String[] {";", ")", "and", "or", "+", "<", "let", "man", "abcdefghi", "12345", "!", ""}) {
                    fault("let when " + open(bits, 5) + "~" + token, 1);
                }
            }
        });
        Edges.edge("34: any PART of an E lies within its ( )", () -> {
            String[] behind = {"1+", "1-", "1*", "1<", "1=", "1 and ", "1 or ", "1*1+1<1 and "};
            for (String ahead : behind) {
                fault("let when ((((" + ahead + "(~1)))));", 5);
                fault("let when ((((" + ahead + "not ~1))));", 5);
                fault("let when ((((1)" + ahead.substring(1) + "((~1", 5);
                reads("((((" + ahead + "1))))");
                reads("(((" + ahead + "(1))))");
            }
        });
        Edges.edge("34: one behind another lies within its own alone", () -> {
            reads("((((1))))+((((1))))*((((1))))-((((1))))");
            reads("((((1))))<((((1)))) and ((((1)))) or ((((1))))=((((1))))");
            reads("not not not not 1+not not not not 1 and not not not not 1");
            reads("not (not (1)) and not (not (1)) and not (not (1))");
            reads("(((1)+(1))+((1)+(1)))");
            reads("(not (1) and not (1) and not (1) and not (not 1))");
            fault("let when ((((1))))+((((1))))*(((((~1", 5);
            fault("let when not not 1+not not not not not ~1", 5);
        });
        Edges.edge("34: each line anew", () -> {
            reads(Edges.repeat("let when ((((1))));", 6), 6);
            fault(Edges.repeat("let when ((((1))));", 5) + "let when (((((~1", 5);
        });
    }

    // ---- 35: lets

    /** Whether an E comes to a small number (from 0 on) for the MARRIAGE of LINE 1. */
    private static void value(ReedSheets x, String e, int want) {
        Edges.due("law " + e, Edges.law(x, 0, "let when (" + e + ")=" + want + ";"), 0);
        Edges.due(e + " is " + want, x.lets(0, 0, 1), 1);
        Edges.due("law " + e, Edges.law(x, 1, "let when " + e + ";"), 0);
        Edges.due(e + " is so", x.lets(1, 0, 1), want == 0 ? 0 : 1);
    }

    private static void ofValues() {
        Edges.edge("35: not, and, or, < and = come to 1 or 0; what is not 0 is so", () -> {
            ReedSheets x = Edges.with(Edges.FULL_ONE);
            String[] es = {"not 0", "not 1", "not 7", "not (0-1)", "not not 7", "5 and 7", "5 and 0", "0 and 5", "0 and 0",
                "5 or 7", "5 or 0", "0 or 5", "0 or 0", "(0-1) and 1", "(0-1) or 0", "2<3", "3<3", "3<2", "(0-1)<0", "0<(0-1)",
                "2=3", "3=3", "(0-1)=(1-2)", "(2<3)+(3=3)+(not 0)+(5 and 7)+(0 or 9)"};
            int[] want = {1, 0, 0, 0, 1, 1, 0, 0, 0, 1, 1, 1, 0, 1, 1, 1, 0, 0, 1, 0, 0, 1, 1, 5};
            for (int i = 0; i < es.length; i++) {
                value(x, es[i], want[i]);
            }
            value(x, "0009", 9);
            value(x, "9999", 9999);
            value(x, "9999=9998+1", 1);
            value(x, "9998", 9998);
        });
        Edges.edge("35: and, or from the left; + - from the left; * ahead of them", () -> {
            ReedSheets x = Edges.with(Edges.FULL_ONE);
            String[] es = {"1 or 1 and 0", "1 or 0 and 0", "0 and 0 or 1", "0 and 1 or 1", "1 or (1 and 0)", "10-3-2", "10-3+2",
                "10-(3-2)", "2+3*4", "2*3+4", "20-2*3-4*1", "2*3*4", "2*(3+4)", "1+1<2+1", "2<1+2 and 3=2+1", "1<2",
                "not 0*5", "not (0*5)", "not 0+5", "not 1<1", "not (1<1)", "not 0=1"};
            int[] want = {0, 0, 1, 1, 1, 5, 9, 9, 14, 10, 10, 24, 14, 1, 1, 1, 5, 1, 6, 1, 1, 1};
            for (int i = 0; i < es.length; i++) {
                value(x, es[i], want[i]);
            }
        });
        Edges.edge("35: ints wrap", () -> {
            ReedSheets x = Edges.with(Edges.FULL_ONE);
            String least = "256*256*256*128";
            String[] es = {least + "<0", "0<" + least + "-1", "0-" + least + "<0", "0-" + least + "=" + least, least + "<1", "1<" + least,
                "256*256*256*256", least + "+" + least, "9999*9999*9999*9999-9999*9999*9999*9999", least + " and 1",
                "not (" + least + ")", least + "-1+1<0", "256*256*256*256+9", "0<9999*9999*9999"};
            int[] want = {1, 1, 1, 1, 1, 0, 0, 0, 0, 1, 0, 1, 9, (int) 999700029999L > 0 ? 1 : 0};
            for (int i = 0; i < es.length; i++) {
                value(x, es[i], want[i]);
            }
        });
        Edges.edge("35: as much as can wait at once", () -> {
            ReedSheets x = Edges.with(Edges.FULL_ONE);
            value(x, "1 and 2=1+1*(1 and 2=1+1*(1 and 2=1+1*(1 and 2=1+1*1)))", 1);
            value(x, "0 or 3<1+2*(0 or 3<1+2*(0 or 3<1+2*(0 or 3<1+2*0)))", 0);
            value(x, "not (2-1 and 2<1+2*(1 or 1=0-1*3))", 0);
        });
        Edges.edge("35: of a LAW with lines: if one of them is not 0", () -> {
            String[] laws = {"", "let when 0;", "let when 1;", "let when 0-1;", "let when 0;let when 0;", "let when 0;let when 5;",
                "let when 5;let when 0;", "let when 0;let when 0;let when 0;let when 0;let when 0;let when 1;",
                "let when 1;let when 0;let when 0;let when 0;let when 0;let when 0;",
                "let when 0;let when 0;let when 0;let when 0;let when 0;let when 0;", "let when 1;let when 0-1;",
                "let when not 0;let when 0 and 1;"};
            int[] want = {0, 0, 1, 1, 0, 1, 1, 1, 1, 0, 1, 1};
            for (int i = 0; i < laws.length; i++) {
                ReedSheets x = Edges.with(Edges.FULL_ONE);
                Edges.due("law", Edges.law(x, 0, laws[i]), 0);
                Edges.due("lets by " + laws[i], x.lets(0, 0, 1), want[i]);
                Edges.due("fails " + laws[i], x.fails(0), 1 - want[i]);
            }
        });
    }

    // ---- 35: facts

    /** Facts of the MARRIAGE of LINE 1, those from 0 on. */
    private static void facts(ReedSheets x, String names, int... want) {
        String[] facts = names.split(" ");
        for (int i = 0; i < facts.length; i++) {
            value(x, facts[i], want[i]);
        }
    }

    private static void ofFacts() {
        Edges.edge("35: gap is his AGE less hers, below 0 too", () -> {
            facts(Edges.with("man a 50;woman b 20 wife a;"), "gap his hers", 30, 50, 20);
            facts(Edges.with("man a 50;woman b 50 wife a;"), "gap his hers", 0, 50, 50);
            ReedSheets x = Edges.with("man a 0;woman b 120 wife a;");
            facts(x, "his hers", 0, 120);
            value(x, "gap+120", 0);
            value(x, "gap<0", 1);
        });
        Edges.edge("35: full, half, called, cracked: 1 or 0: its SORT", () -> {
            for (int sort = 0; sort < 5; sort++) {
                ReedSheets x = Edges.with(Edges.weddings(sort));
                facts(x, "full half called cracked", sort == 0 ? 1 : 0, sort == 1 ? 1 : 0, sort == 2 ? 1 : 0, sort == 3 ? 1 : 0);
            }
        });
        Edges.edge("35: adopted: 2 TAKEN IN surely, 1 perhaps, 0", () -> {
            facts(Edges.with("man a 7 taken" + FG + ";woman b 7 wife a" + FG + ";"), "adopted", 2);
            facts(Edges.with(Edges.FULL_ONE), "adopted", 1);
            facts(Edges.with(Edges.FULL_ONE + "man c 7" + FG + ";"), "adopted", 0);
            facts(Edges.with("man a 7;woman b 7 wife a sister a taken;"), "adopted", 2);
            facts(Edges.with("man a 7;woman b 7 wife a sister a;"), "adopted", 1);
        });
        Edges.edge("35: adopted: 0 of another SORT, though he has taken", () -> {
            facts(Edges.with("man a 7 taken;woman b 7 wife a taken;"), "adopted", 0);
            facts(Edges.with("man a 7 taken father f;woman b 7 wife a father f sister a;"), "adopted", 0);
            facts(Edges.with("man a 7 taken;woman b 7 wife a sister a broken;"), "adopted", 0);
        });
        Edges.edge("35: sons: other men that are FULL with her; sisters: other women that are FULL with him", () -> {
            facts(Edges.with(Edges.FULL_ONE), "sons sisters", 0, 0);
            facts(Edges.with(Edges.FULL_ONE + "man c 7" + FG + ";"), "sons sisters", 1, 0);
            facts(Edges.with(Edges.FULL_ONE + "woman c 7" + FG + ";"), "sons sisters", 0, 1);
            facts(Edges.with(Edges.FULL_ONE + "man c 7 father f;woman d 7 mother g;man e 7;woman h 7;"), "sons sisters", 0, 0);
            String others = "man c 7" + FG + ";man d 7" + FG + ";woman e 7" + FG + ";";
            facts(Edges.with("man a 7;woman b 7 wife a" + FG + ";" + others), "sons sisters", 2, 0);
            facts(Edges.with("man a 7" + FG + ";woman b 7 wife a;" + others), "sons sisters", 0, 1);
            facts(Edges.with("man a 7;woman b 7 wife a;" + others), "sons sisters", 0, 0);
        });
        Edges.edge("35: sons and sisters of one SHEET, as many as can be", () -> {
            StringBuilder text = new StringBuilder("man a 7" + FG + ";woman b 7 wife a" + FG + ";");
            for (char name = 'h'; name < 'm'; name++) {
                text.append("man ").append(name).append(" 7").append(FG).append(';');
                text.append("woman ").append(name).append("w 7").append(FG).append(';');
            }
            ReedSheets x = Edges.with(text.toString());
            Edges.put(x, 1, 0, 0, "man c 7" + FG + ";woman d 7" + FG + ";");
            facts(x, "sons sisters", 5, 5);
        });
        Edges.edge("35: village, side, count, at their ends", () -> {
            ReedSheets x = new ReedSheets();
            Edges.put(x, 0, 5, 7, Edges.NO_ONE);
            facts(x, "village side count", 5, 0, 7);
            x.side(5, 1);
            facts(x, "village side count", 5, 1, 7);
            x.side(0, 1);
            Edges.put(x, 0, 0, 0, Edges.NO_ONE);
            facts(x, "village side count", 0, 1, 0);
        });
        Edges.edge("35: NONE: others, no wife", () -> {
            ReedSheets x = Edges.with(Edges.FULL_ONE + "woman c 7" + FG + ";");
            Edges.law(x, 0, "let when 1;");
            Edges.due("hers", x.lets(0, 0, 1), 1);
            Edges.due("by an empty one", x.lets(3, 0, 1), 0);
            Edges.due("his", x.lets(0, 0, 0), NONE);
            Edges.due("no wife", x.lets(0, 0, 2), NONE);
            for (int line : new int[] {3, 11, 12, -1, Edges.MIN, Edges.MAX}) {
                Edges.due("line " + line, x.lets(0, 0, line), NONE);
            }
            for (int law : NO_LAWS) {
                Edges.due("law " + law, x.lets(law, 0, 1), NONE);
            }
            x.sheet(2, 0, 0);
            for (int s : NO_SHEETS) {
                Edges.due("SHEET " + s, x.lets(0, s, 1), NONE);
            }
            x.forget(0);
            Edges.due("forgotten", x.lets(0, 0, 1), NONE);
        });
    }

    // ---- 36 to 38: fails, fittest, apart

    /** SORTS 0, 0, 1 on one SHEET, 2, 3, 4, 4 on another one. */
    private static ReedSheets sevenWeddings() {
        ReedSheets x = Edges.with(Edges.weddings(0, 0, 1));
        Edges.put(x, 23, 5, 7, Edges.weddings(2, 3, 4, 4));
        return x;
    }

    private static void ofFailing() {
        Edges.edge("36: it FAILS those that it does not let, of all READ SHEETS", () -> {
            ReedSheets x = sevenWeddings();
            String[] laws = {"let when full;", "let when half;let when called;", "let when 1;", "let when count=7;"};
            int[] want = {5, 5, 0, 3};
            for (int law = 0; law < 4; law++) {
                Edges.due("an empty one", x.fails(law), 7);
                Edges.law(x, law, laws[law]);
                Edges.due("fails by " + laws[law], x.fails(law), want[law]);
            }
            x.forget(23);
            Edges.due("of those READ alone", x.fails(0), 1);
        });
        Edges.edge("36: without MARRIAGES 0; NONE: no such one", () -> {
            ReedSheets x = Edges.with("man a 7;woman b 7;");
            for (int law = 0; law < 4; law++) {
                Edges.due("fails " + law, x.fails(law), 0);
            }
            for (int law : NO_LAWS) {
                Edges.due("fails " + law, x.fails(law), NONE);
            }
        });
        Edges.edge("37: that which FAILS the fewest, of equal ones the first", () -> {
            ReedSheets x = sevenWeddings();
            Edges.due("all are empty", x.fittest(), 0);
            Edges.law(x, 3, "let when cracked;");
            Edges.due("the last one", x.fittest(), 3);
            Edges.law(x, 2, "let when called;");
            Edges.due("two that are equal", x.fittest(), 2);
            Edges.law(x, 1, "let when full;");
            Edges.due("one that fails fewer", x.fittest(), 1);
            Edges.law(x, 0, "let when full;");
            Edges.due("the first one, as few", x.fittest(), 0);
            Edges.law(x, 3, "let when 1;");
            Edges.due("none fails", x.fittest(), 3);
            x.forget(0);
            x.forget(23);
            Edges.due("without MARRIAGES", x.fittest(), 0);
        });
        Edges.edge("38: how many the first LAW LETS, the second one not", () -> {
            ReedSheets x = sevenWeddings();
            Edges.law(x, 0, "let when full or half;");
            Edges.law(x, 1, "let when half or called;");
            Edges.law(x, 2, "let when 1;");
            int[][] want = {{0, 2, 0, 3}, {1, 0, 0, 2}, {4, 5, 0, 7}, {0, 0, 0, 0}};
            for (int law = 0; law < 4; law++) {
                for (int other = 0; other < 4; other++) {
                    Edges.due("apart " + law + ", " + other, x.apart(law, other), want[law][other]);
                }
            }
        });
        Edges.edge("38: NONE: others", () -> {
            ReedSheets x = sevenWeddings();
            for (int law : NO_LAWS) {
                Edges.due("apart " + law, x.apart(law, 0), NONE);
                Edges.due("apart of 0 and " + law, x.apart(0, law), NONE);
                Edges.due("apart " + law + " twice", x.apart(law, law), NONE);
            }
        });
    }

    public static void main(String[] args) {
        ofTaken();
        ofBorn();
        ofLawsAtAll();
        ofLawTokens();
        ofDepth();
        ofValues();
        ofFacts();
        ofFailing();
        Edges.end();
    }
}
