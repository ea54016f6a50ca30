import java.util.NoSuchElementException;

/** What the tests of edges share. An edge is a sentence of the document that names a boundary case. */
final class Edges {
    static final int NONE = -1;
    static final int MIN = Integer.MIN_VALUE;
    static final int MAX = Integer.MAX_VALUE;
    /** A MARRIAGE of SORT 0, he TAKEN IN perhaps, and one of SORT 4. */
    static final String FULL_ONE = "man a 7 father f mother g;woman b 7 wife a father f mother g;";
    static final String NO_ONE = "man a 7;woman b 7 wife a;";

    private static final int MOST_TOLD = 40;
    private static String sentence = "";
    private static int edges = 0;
    private static int asked = 0;
    private static int wrong = 0;

    interface Test {
        void run();
    }

    interface Call {
        long run();
    }

    private Edges() {
    }

    /** A test of one sentence; what it throws is wrong as well, and so is one that asks nothing. */
    static void edge(String told, Test test) {
        sentence = told;
        edges++;
        int before = asked;
        try {
            test.run();
        } catch (RuntimeException e) {
            tell("threw " + e);
        }
        if (asked == before) {
            tell("nothing was asked");
        }
    }

    private static void tell(String text) {
        wrong++;
        if (wrong <= MOST_TOLD) {
            System.out.println("[" + sentence + "] " + text);
        }
    }

    static void due(String what, long got, long want) {
        asked++;
        if (got != want) {
            tell(what + " answered " + got + ", due is " + want);
        }
    }

    static void due(String what, boolean got, boolean want) {
        asked++;
        if (got != want) {
            tell(what + " answered " + got + ", due is " + want);
        }
    }

    static void dueFraction(String what, long above, long below, long wantAbove, long wantBelow) {
        asked++;
        if (above != wantAbove || below != wantBelow) {
            tell(what + " answered " + above + " / " + below + ", due is " + wantAbove + " / " + wantBelow);
        }
    }

    static void throwsNoSuch(String what, Call call) {
        asked++;
        try {
            tell(what + " answered " + call.run() + ", due is NoSuchElementException");
        } catch (NoSuchElementException e) {
            return;
        }
    }

    static void end() {
        System.out.println(edges + " edges, " + asked + " answers, " + wrong + " wrong");
        if (wrong != 0) {
            System.exit(1);
        }
    }

    // ---- objects and what is put into them

    /** How many signs are on the TAPE then. */
    static int feed(ReedSheets x, String text) {
        int n = x.count(6);
        for (int i = 0; i < text.length(); i += 24) {
            long[] rows = new long[3];
            for (int k = 0; k < 24; k++) {
                char sign = i + k < text.length() ? text.charAt(i + k) : 0;
                rows[k / 8] = rows[k / 8] << 8 | sign;
            }
            n = x.feed(rows[0], rows[1], rows[2]);
        }
        return n;
    }

    static int read(ReedSheets x, int sheet, String text) {
        feed(x, text);
        return x.read(sheet);
    }

    static int law(ReedSheets x, int law, String text) {
        feed(x, text);
        return x.law(law);
    }

    /** Tells a SHEET and has it READ. */
    static void put(ReedSheets x, int sheet, int village, int count, String text) {
        due("sheet(" + sheet + ", " + village + ", " + count + ")", x.sheet(sheet, village, count), true);
        due("read " + text, read(x, sheet, text), 0);
    }

    /** A new object with SHEET 0 of VILLAGE 0 and COUNT 0. */
    static ReedSheets with(String text) {
        ReedSheets x = new ReedSheets();
        put(x, 0, 0, 0, text);
        return x;
    }

    /** MARRIAGES of these SORTS, six at most, wives in LINES 1, 3, ..; no man is FULL with another one's wife. */
    static String weddings(int... sorts) {
        StringBuilder text = new StringBuilder();
        for (int i = 0; i < sorts.length; i++) {
            char he = (char) ('a' + 2 * i);
            char she = (char) ('b' + 2 * i);
            String parents = sorts[i] == 0 ? " father f" + he + " mother g" + he : sorts[i] == 1 ? " father f" + he : "";
            String word = sorts[i] == 2 ? " sister " + he : sorts[i] == 3 ? " sister " + he + " broken" : "";
            text.append("man ").append(he).append(" 7").append(parents).append(';');
            text.append("woman ").append(she).append(" 7 wife ").append(he).append(parents).append(word).append(';');
        }
        return text.toString();
    }

    static String repeat(String text, int times) {
        StringBuilder all = new StringBuilder();
        for (int i = 0; i < times; i++) {
            all.append(text);
        }
        return all.toString();
    }
}
