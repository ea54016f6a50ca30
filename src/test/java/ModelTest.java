import java.math.BigInteger;
import java.util.ArrayList;
import java.util.Arrays;
import java.util.Collections;
import java.util.HashMap;
import java.util.List;
import java.util.Map;
import java.util.NoSuchElementException;
import java.util.Random;
import java.util.TreeMap;
import java.util.TreeSet;
import java.util.function.LongSupplier;
import java.util.function.ToIntFunction;
import java.util.regex.Matcher;
import java.util.regex.Pattern;

/** Runs of drawn calls, answered by the class and by a slow model that was written anew from the document (by the same reader: it shares what that one misread). */
public final class ModelTest {
    private static final int NONE = -1;
    private static final long THROWS = Long.MIN_VALUE;
    private static int wrong = 0;
    private static long asked = 0;
    /** What an object answers after so many calls is free: they are not made. */
    private static final int MOST_CALLS = 512;
    private static final int CALLS_THAT_CHANGE = 150;
    private static int calls = 0;

    // ---- the model

    private static final class Line {
        boolean woman;
        String name;
        int age;
        String father;
        String mother;
        Line husband;
        Line sister;
        TreeSet<String> tags = new TreeSet<>();

        int slack() {
            return age >= 10 && age % 5 == 0 ? 2 : 0;
        }
    }

    private static final class Sheet {
        int village;
        int count;
        int may = 2;
        List<Line> lines;

        Sheet copy() {
            Sheet s = new Sheet();
            s.village = village;
            s.count = count;
            s.may = may;
            s.lines = lines;
            return s;
        }
    }

    private static final class Token {
        String text;
        char kind;
        int place;
    }

    private static final class Fault extends RuntimeException {
        private static final long serialVersionUID = 1;
        final int code;

        Fault(int kind, Token token) {
            code = kind + 16 * token.place;
        }
    }

    private static final class Wedding {
        int number;
        Sheet sheet;
        Line he;
        Line she;
        int sort;
        int taken;
    }

    private static final class Model {
        int[] sides = new int[6];
        TreeMap<Integer, Sheet> sheets = new TreeMap<>();
        StringBuilder tape = new StringBuilder();
        int[][] tables = new int[4][17];
        List<Integer> gaps = new ArrayList<>();
        List<List<ToIntFunction<Map<String, Integer>>>> laws = new ArrayList<>();
        Map<Integer, TreeMap<Integer, Sheet>> markSheets = new HashMap<>();
        Map<Integer, int[]> markSides = new HashMap<>();
        List<Token> tokens;
        int next;

        Model() {
            for (int[] t : tables) {
                Arrays.fill(t, 1000);
            }
            for (int i = 0; i < 4; i++) {
                laws.add(new ArrayList<>());
            }
        }

        // -- texts

        void tokenize() {
            tokens = new ArrayList<>();
            Matcher m = Pattern.compile("[a-z]+|[0-9]+|[()<=+*;-]|[^ \\n]").matcher(tape);
            while (m.find()) {
                Token t = new Token();
                t.text = m.group();
                t.place = m.start();
                char c = t.text.charAt(0);
                if (c >= 'a' && c <= 'z') {
                    t.kind = t.text.length() <= 8 ? 'w' : '?';
                } else if (c >= '0' && c <= '9') {
                    t.kind = t.text.length() <= 4 ? 'n' : '?';
                } else {
                    t.kind = "()<=+-*;".indexOf(c) >= 0 ? 's' : '?';
                }
                tokens.add(t);
            }
            Token end = new Token();
            end.text = "";
            end.kind = 'e';
            end.place = tape.length();
            tokens.add(end);
            next = 0;
            tape.setLength(0);
        }

        Token peek() {
            return tokens.get(next);
        }

        boolean is(String text) {
            return peek().kind != '?' && peek().kind != 'e' && peek().text.equals(text);
        }

        Token name() {
            Token t = peek();
            if (t.kind != 'w' || Arrays.asList("father", "mother", "wife", "sister", "broken", "taken", "slave", "lodger",
                    "man", "woman").contains(t.text)) {
                throw new Fault(1, t);
            }
            next++;
            return t;
        }

        List<Line> parseSheet() {
            List<Line> lines = new ArrayList<>();
            while (peek().kind != 'e') {
                if (!is("man") && !is("woman")) {
                    throw new Fault(1, peek());
                }
                if (lines.size() == 12) {
                    throw new Fault(5, peek());
                }
                Line line = new Line();
                line.woman = is("woman");
                next++;
                Token t = name();
                if (find(lines, t.text) != null) {
                    throw new Fault(3, t);
                }
                line.name = t.text;
                t = peek();
                if (t.kind != 'n') {
                    throw new Fault(1, t);
                }
                line.age = Integer.parseInt(t.text);
                if (line.age > 120) {
                    throw new Fault(4, t);
                }
                next++;
                while (!is(";")) {
                    parseTag(lines, line);
                }
                next++;
                lines.add(line);
            }
            return lines;
        }

        void parseTag(List<Line> ahead, Line line) {
            Token t = peek();
            if (t.kind != 'w' || !Arrays.asList("father", "mother", "wife", "sister", "broken", "taken", "slave", "lodger")
                    .contains(t.text)) {
                throw new Fault(1, t);
            }
            if (line.tags.contains(t.text)) {
                throw new Fault(3, t);
            }
            boolean his = t.text.equals("wife") || t.text.equals("sister");
            if (his && !line.woman || t.text.equals("broken") && !line.tags.contains("sister")) {
                throw new Fault(6, t);
            }
            line.tags.add(t.text);
            next++;
            if (t.text.equals("father")) {
                line.father = name().text;
            } else if (t.text.equals("mother")) {
                line.mother = name().text;
            } else if (his) {
                Token n = name();
                Line other = find(ahead, n.text);
                if (other == null || t.text.equals("wife") && other.woman) {
                    throw new Fault(2, n);
                }
                if (t.text.equals("sister")) {
                    line.sister = other;
                } else {
                    for (Line l : ahead) {
                        if (l.husband == other) {
                            throw new Fault(3, n);
                        }
                    }
                    line.husband = other;
                }
            }
        }

        static Line find(List<Line> lines, String name) {
            for (Line l : lines) {
                if (l.name.equals(name)) {
                    return l;
                }
            }
            return null;
        }

        List<ToIntFunction<Map<String, Integer>>> parseLaw() {
            List<ToIntFunction<Map<String, Integer>>> list = new ArrayList<>();
            while (peek().kind != 'e') {
                expect("let", list.size() == 6 ? 5 : 0);
                expect("when", 0);
                list.add(parseE(0));
                expect(";", 0);
            }
            return list;
        }

        void expect(String text, int fault) {
            if (!is(text)) {
                throw new Fault(1, peek());
            }
            if (fault != 0) {
                throw new Fault(fault, peek());
            }
            next++;
        }

        ToIntFunction<Map<String, Integer>> parseE(int in) {
            ToIntFunction<Map<String, Integer>> left = parseTest(in);
            while (is("and") || is("or")) {
                boolean and = is("and");
                next++;
                ToIntFunction<Map<String, Integer>> a = left;
                ToIntFunction<Map<String, Integer>> b = parseTest(in);
                left = and ? m -> (a.applyAsInt(m) != 0 & b.applyAsInt(m) != 0) ? 1 : 0
                        : m -> (a.applyAsInt(m) != 0 | b.applyAsInt(m) != 0) ? 1 : 0;
            }
            return left;
        }

        ToIntFunction<Map<String, Integer>> parseTest(int in) {
            ToIntFunction<Map<String, Integer>> a = parseSum(in);
            if (is("<") || is("=")) {
                boolean less = is("<");
                next++;
                ToIntFunction<Map<String, Integer>> b = parseSum(in);
                return less ? m -> a.applyAsInt(m) < b.applyAsInt(m) ? 1 : 0 : m -> a.applyAsInt(m) == b.applyAsInt(m) ? 1 : 0;
            }
            return a;
        }

        ToIntFunction<Map<String, Integer>> parseSum(int in) {
            ToIntFunction<Map<String, Integer>> left = parseProduct(in);
            while (is("+") || is("-")) {
                int sign = is("+") ? 1 : -1;
                next++;
                ToIntFunction<Map<String, Integer>> a = left;
                ToIntFunction<Map<String, Integer>> b = parseProduct(in);
                left = m -> a.applyAsInt(m) + sign * b.applyAsInt(m);
            }
            return left;
        }

        ToIntFunction<Map<String, Integer>> parseProduct(int in) {
            ToIntFunction<Map<String, Integer>> left = parsePart(in);
            while (is("*")) {
                next++;
                ToIntFunction<Map<String, Integer>> a = left;
                ToIntFunction<Map<String, Integer>> b = parsePart(in);
                left = m -> a.applyAsInt(m) * b.applyAsInt(m);
            }
            return left;
        }

        ToIntFunction<Map<String, Integer>> parsePart(int in) {
            Token t = peek();
            boolean fact = t.kind == 'w' && Arrays.asList("gap", "his", "hers", "full", "half", "called", "cracked",
                    "adopted", "sons", "sisters", "village", "side", "count").contains(t.text);
            if (!fact && t.kind != 'n' && !is("not") && !is("(")) {
                throw new Fault(1, t);
            }
            if (in >= 5) {
                throw new Fault(5, t);
            }
            next++;
            if (fact) {
                return m -> m.get(t.text);
            }
            if (t.kind == 'n') {
                int n = Integer.parseInt(t.text);
                return m -> n;
            }
            if (t.text.equals("not")) {
                ToIntFunction<Map<String, Integer>> a = parsePart(in + 1);
                return m -> a.applyAsInt(m) == 0 ? 1 : 0;
            }
            ToIntFunction<Map<String, Integer>> a = parseE(in + 1);
            expect(")", 0);
            return a;
        }

        long read(int sheet) {
            tokenize();
            if (!sheets.containsKey(sheet)) {
                return NONE;
            }
            try {
                sheets.get(sheet).lines = parseSheet();
                return 0;
            } catch (Fault f) {
                return f.code;
            }
        }

        long law(int law) {
            tokenize();
            if (law < 0 || law > 3) {
                return NONE;
            }
            try {
                laws.set(law, parseLaw());
                return 0;
            } catch (Fault f) {
                return f.code;
            }
        }

        // -- kin and weddings

        static boolean same(String a, String b) {
            return a != null && a.equals(b);
        }

        static int kin(Line a, Line b) {
            boolean f = same(a.father, b.father);
            boolean m = same(a.mother, b.mother);
            return f && m ? 2 : f || m ? 1 : 0;
        }

        TreeMap<Integer, Sheet> readSheets() {
            TreeMap<Integer, Sheet> found = new TreeMap<>();
            for (Map.Entry<Integer, Sheet> e : sheets.entrySet()) {
                if (e.getValue().lines != null) {
                    found.put(e.getKey(), e.getValue());
                }
            }
            return found;
        }

        static int full(Line of, Line except, Sheet s, boolean women) {
            int n = 0;
            for (Line l : s.lines) {
                if (l != of && l != except && l.woman == women && kin(l, of) == 2) {
                    n++;
                }
            }
            return n;
        }

        List<Wedding> weddings() {
            List<Wedding> all = new ArrayList<>();
            for (Map.Entry<Integer, Sheet> e : readSheets().entrySet()) {
                for (Line l : e.getValue().lines) {
                    if (l.husband != null) {
                        Wedding w = new Wedding();
                        w.number = e.getKey();
                        w.sheet = e.getValue();
                        w.she = l;
                        w.he = l.husband;
                        int kin = kin(l, l.husband);
                        w.sort = kin == 2 ? 0 : kin == 1 ? 1 : l.sister != l.husband ? 4 : l.tags.contains("broken") ? 3 : 2;
                        w.taken = w.sort != 0 && w.sort != 2 ? NONE
                                : l.tags.contains("taken") || w.he.tags.contains("taken") ? 2
                                : full(l, w.he, w.sheet, false) == 0 ? 1 : 0;
                        all.add(w);
                    }
                }
            }
            return all;
        }

        Wedding wedding(int sheet, int line) {
            if (!readSheets().containsKey(sheet) || line < 0 || line >= sheets.get(sheet).lines.size()) {
                return null;
            }
            for (Wedding w : weddings()) {
                if (w.number == sheet && w.she == sheets.get(sheet).lines.get(line)) {
                    return w;
                }
            }
            return null;
        }

        boolean isScope(int scope, int which) {
            int[] most = {0, 5, 7, 1};
            return scope == 0 || scope >= 1 && scope <= 3 && which >= 0 && which <= most[scope];
        }

        boolean within(Sheet s, int scope, int which) {
            return scope == 0 || scope == 1 && s.village == which || scope == 2 && s.count == which
                    || scope == 3 && sides[s.village] == which;
        }

        List<Wedding> weddings(int scope, int which) {
            List<Wedding> all = new ArrayList<>();
            for (Wedding w : weddings()) {
                if (within(w.sheet, scope, which)) {
                    all.add(w);
                }
            }
            return all;
        }

        static boolean counted(int how, int sort) {
            return sort == 0 || how >= 1 && sort == 2 || how >= 2 && sort == 3;
        }

        static BigInteger[] share(List<Wedding> all, int how) {
            long above = all.stream().filter(w -> counted(how, w.sort)).count();
            return ratio(above, all.size());
        }

        static BigInteger[] ratio(long above, long below) {
            return ratio(BigInteger.valueOf(above), BigInteger.valueOf(below));
        }

        static BigInteger[] ratio(BigInteger above, BigInteger below) {
            if (below.signum() == 0) {
                return null;
            }
            BigInteger g = above.gcd(below);
            return new BigInteger[] {above.divide(g), below.divide(g)};
        }

        static BigInteger[] minus(BigInteger[] a, BigInteger[] b) {
            if (a == null || b == null) {
                return null;
            }
            return ratio(a[0].multiply(b[1]).subtract(b[0].multiply(a[1])), a[1].multiply(b[1]));
        }

        static int compare(BigInteger[] a, BigInteger[] b) {
            return a[0].multiply(b[1]).compareTo(b[0].multiply(a[1]));
        }

        static long part(BigInteger[] r, int what, long otherwise) {
            return r == null || what < 0 || what > 1 ? otherwise : r[what].longValueExact();
        }

        List<Wedding> without(int sheet) {
            List<Wedding> all = weddings();
            all.removeIf(w -> w.number == sheet);
            return all;
        }

        BigInteger[] move(int sheet) {
            return readSheets().containsKey(sheet) ? minus(share(without(sheet), 0), share(weddings(), 0)) : null;
        }

        long mover() {
            long most = NONE;
            BigInteger[] far = null;
            for (int s = 0; s < 24; s++) {
                BigInteger[] m = move(s);
                if (m != null) {
                    m[0] = m[0].abs();
                    if (far == null || compare(m, far) > 0) {
                        far = m;
                        most = s;
                    }
                }
            }
            return most;
        }

        long bounds(int what) {
            long unread = 0;
            for (Sheet s : sheets.values()) {
                unread += s.lines == null ? s.may : 0;
            }
            long full = weddings().stream().filter(w -> w.sort == 0).count();
            long all = weddings().size() + unread;
            return what < 0 || what > 3 ? NONE : part(ratio(full + (what / 2) * unread, all), what % 2, NONE);
        }

        long next() {
            List<Integer> unread = new ArrayList<>();
            for (Map.Entry<Integer, Sheet> e : sheets.entrySet()) {
                if (e.getValue().lines == null) {
                    unread.add(e.getKey());
                }
            }
            unread.sort((a, b) -> {
                Sheet s = sheets.get(a);
                Sheet t = sheets.get(b);
                if (s.may != t.may) {
                    return t.may - s.may;
                }
                int m = weddings(1, s.village).size() - weddings(1, t.village).size();
                return m != 0 ? m : a - b;
            });
            return unread.isEmpty() ? NONE : unread.get(0);
        }

        long heaping(int scope, int which, int what) {
            if (!isScope(scope, which)) {
                return NONE;
            }
            long all = 0;
            long fives = 0;
            for (Sheet s : readSheets().values()) {
                for (Line l : s.lines) {
                    if (within(s, scope, which) && l.age >= 10 && l.age <= 69) {
                        all++;
                        fives += l.age % 5 == 0 ? 5 : 0;
                    }
                }
            }
            return part(ratio(fives, all), what, NONE);
        }

        // -- houses

        static TreeSet<Integer> years(Sheet s, Line l) {
            TreeSet<Integer> years = new TreeSet<>();
            for (int a = l.age - l.slack(); a <= l.age + l.slack(); a++) {
                years.add(14 * s.count - a);
            }
            return years;
        }

        static boolean one(Sheet s, Line a, Sheet t, Line b) {
            return s.village == t.village && s.count != t.count && a.woman == b.woman && a.name.equals(b.name)
                    && kin(a, b) == 2 && !Collections.disjoint(years(s, a), years(t, b));
        }

        Line oneIn(Sheet s, Line a, Sheet t) {
            for (Line b : t.lines) {
                if (one(s, a, t, b)) {
                    return b;
                }
            }
            return null;
        }

        boolean[][] houses() {
            boolean[][] h = new boolean[24][24];
            TreeMap<Integer, Sheet> r = readSheets();
            for (int s : r.keySet()) {
                for (int t : r.keySet()) {
                    int n = 0;
                    for (Line l : r.get(s).lines) {
                        n += oneIn(r.get(s), l, r.get(t)) != null ? 1 : 0;
                    }
                    h[s][t] = s == t || n >= 2;
                }
            }
            for (int k = 0; k < 24; k++) {
                for (int i = 0; i < 24; i++) {
                    for (int j = 0; j < 24; j++) {
                        h[i][j] |= h[i][k] && h[k][j];
                    }
                }
            }
            return h;
        }

        long houseCount() {
            boolean[][] h = houses();
            long n = 0;
            for (int s : readSheets().keySet()) {
                boolean first = true;
                for (int t = 0; t < s; t++) {
                    first &= !h[s][t];
                }
                n += first ? 1 : 0;
            }
            return n;
        }

        TreeSet<Integer> known(Sheet s, Line l) {
            TreeSet<Integer> years = years(s, l);
            for (Sheet t : readSheets().values()) {
                Line o = oneIn(s, l, t);
                if (o != null) {
                    years.retainAll(years(t, o));
                }
            }
            return years;
        }

        long left(int sheet, int women, int what) {
            if (women < 0 || women > 1 || what < 0 || what > 1) {
                return NONE;
            }
            if (sheet == NONE) {
                long n = 0;
                for (int s : readSheets().keySet()) {
                    n += left(s, women, what);
                }
                return n;
            }
            TreeMap<Integer, Sheet> r = readSheets();
            if (!r.containsKey(sheet)) {
                return NONE;
            }
            boolean[][] h = houses();
            Sheet s = r.get(sheet);
            long n = 0;
            for (int t : r.keySet()) {
                Sheet later = r.get(t);
                for (Line l : later.lines) {
                    if (t == sheet || !h[sheet][t] || later.count <= s.count || l.woman != (women == 1)) {
                        continue;
                    }
                    boolean parent = false;
                    for (Line p : s.lines) {
                        parent |= p.woman ? p.name.equals(l.mother) : p.name.equals(l.father);
                    }
                    TreeSet<Integer> years = known(later, l);
                    long ahead = years.stream().filter(y -> y < 14 * s.count).count();
                    boolean surely = ahead > 0 && ahead == years.size();
                    boolean perhaps = ahead > 0 && !surely;
                    n += parent && (what == 0 ? surely : perhaps) && oneIn(later, l, s) == null ? 1 : 0;
                }
            }
            return n;
        }

        // -- lives

        long at(int table, int age) {
            if (age >= 80) {
                return 5L * tables[table][16];
            }
            int below = age / 5 * 5;
            return (long) tables[table][below / 5] * (below + 5 - age) + (long) tables[table][below / 5 + 1] * (age - below);
        }

        long living(int table, int k) {
            return tables[table][k] + (k == 16 ? 0 : tables[table][k + 1]);
        }

        long fit(int table, int from) {
            long[] in = new long[17];
            long lines = 0;
            long all = 0;
            for (Sheet s : readSheets().values()) {
                for (Line l : s.lines) {
                    int k = l.age >= 80 ? 16 : l.age / 5;
                    in[k]++;
                    lines += k >= from ? 1 : 0;
                }
            }
            for (int k = from; k <= 16; k++) {
                all += living(table, k);
            }
            long sum = 0;
            for (int k = from; k <= 16; k++) {
                sum += Math.abs(in[k] * all - living(table, k) * lines);
            }
            return sum;
        }

        long best(int from) {
            int best = 0;
            for (int t = 1; t < 4; t++) {
                best = fit(t, from) < fit(best, from) ? t : best;
            }
            return best;
        }

        BigInteger[] could(int table, int age, int w) {
            BigInteger[] not = ratio(1, 1);
            for (int g : gaps) {
                if (Math.abs(g) <= w && age + g >= 0) {
                    BigInteger[] here = minus(ratio(1, 1), ratio(at(table, age + g), 10000));
                    not = ratio(not[0].multiply(here[0]), not[1].multiply(here[1]));
                }
            }
            return minus(ratio(1, 1), not);
        }

        long sisters(int table, int w, int what) {
            BigInteger whole = BigInteger.TEN.pow(16);
            BigInteger sum = BigInteger.ZERO;
            long full = 0;
            for (Wedding v : weddings()) {
                BigInteger[] c = could(table, v.he.age, w);
                sum = sum.add(c[0].multiply(whole).divide(c[1]));
                full += v.sort == 0 ? 1 : 0;
            }
            if (what == 0) {
                return sum.longValueExact();
            }
            BigInteger more = BigInteger.valueOf(full).multiply(whole).subtract(sum);
            BigInteger[] cut = more.divideAndRemainder(whole);
            return more.signum() <= 0 ? 0 : cut[0].longValueExact() + (cut[1].signum() > 0 ? 1 : 0);
        }

        // -- laws

        boolean lets(int law, Wedding w) {
            Map<String, Integer> m = new HashMap<>();
            m.put("gap", w.he.age - w.she.age);
            m.put("his", w.he.age);
            m.put("hers", w.she.age);
            m.put("full", w.sort == 0 ? 1 : 0);
            m.put("half", w.sort == 1 ? 1 : 0);
            m.put("called", w.sort == 2 ? 1 : 0);
            m.put("cracked", w.sort == 3 ? 1 : 0);
            m.put("adopted", w.taken == NONE ? 0 : w.taken);
            m.put("sons", full(w.she, w.he, w.sheet, false));
            m.put("sisters", full(w.he, w.she, w.sheet, true));
            m.put("village", w.sheet.village);
            m.put("side", sides[w.sheet.village]);
            m.put("count", w.sheet.count);
            return laws.get(law).stream().anyMatch(f -> f.applyAsInt(m) != 0);
        }

        long fails(int law) {
            return weddings().stream().filter(w -> !lets(law, w)).count();
        }

        long fittest() {
            int best = 0;
            for (int i = 1; i < 4; i++) {
                best = fails(i) < fails(best) ? i : best;
            }
            return best;
        }

        // -- worlds

        BigInteger g;

        int draw(int m) {
            g = g.multiply(BigInteger.valueOf(1103515245)).add(BigInteger.valueOf(12345)).mod(BigInteger.valueOf(2147483648L));
            return g.divide(BigInteger.valueOf(65536)).mod(BigInteger.valueOf(m)).intValueExact();
        }

        int[] world(int seed, int houses, int table, int w, int odds) {
            int[] made = new int[2];
            g = BigInteger.valueOf(seed);
            for (int h = 0; h < houses; h++) {
                int n = draw(6) + 1;
                List<int[]> children = new ArrayList<>();
                int age = 45;
                for (int i = 0; i < n; i++) {
                    int girl = draw(2);
                    age = age - (draw(5) + 1);
                    boolean alive = draw(5000) < at(table, age);
                    if (alive) {
                        children.add(new int[] {girl, age, 0});
                    }
                }
                for (int[] he : children) {
                    if (he[0] == 1 || he[1] < 15) {
                        continue;
                    }
                    made[0]++;
                    int[] she = null;
                    for (int[] c : children) {
                        if (she == null && c[0] == 1 && c[1] >= 12 && c[2] == 0 && Math.abs(c[1] - he[1]) <= w) {
                            she = c;
                        }
                    }
                    if (she != null && draw(10) < odds) {
                        she[2] = 1;
                        made[1]++;
                    }
                }
            }
            return made;
        }

        long rates(int seeds, int houses, int table, int w, int odds) {
            List<Wedding> all = weddings();
            long full = all.stream().filter(v -> v.sort == 0).count();
            long n = 0;
            for (int s = 0; s < seeds; s++) {
                int[] made = world(s, houses, table, w, odds);
                n += (long) made[1] * all.size() >= full * made[0] ? 1 : 0;
            }
            return all.isEmpty() ? NONE : n;
        }

        // -- readings

        List<BigInteger[]> readings() {
            List<BigInteger[]> found = new ArrayList<>();
            for (int how = 0; how < 3; how++) {
                for (int most = 2; most >= 0; most--) {
                    List<Integer> leaves = new ArrayList<>(readSheets().keySet());
                    leaves.add(0, NONE);
                    for (int leave : leaves) {
                        List<Wedding> all = without(leave);
                        int limit = most;
                        all.removeIf(w -> w.taken > limit);
                        BigInteger[] r = share(all, how);
                        if (r != null) {
                            found.add(r);
                        }
                    }
                }
            }
            return found;
        }

        long readings(int what) {
            List<BigInteger[]> all = readings();
            if (what == 0) {
                return all.size();
            }
            if (what < 0 || what > 6 || all.isEmpty()) {
                return NONE;
            }
            int least = 0;
            int most = 0;
            for (int i = 1; i < all.size(); i++) {
                least = compare(all.get(i), all.get(least)) < 0 ? i : least;
                most = compare(all.get(i), all.get(most)) > 0 ? i : most;
            }
            long[] answers = {all.get(least)[0].longValueExact(), all.get(least)[1].longValueExact(), least,
                all.get(most)[0].longValueExact(), all.get(most)[1].longValueExact(), most};
            return answers[what - 1];
        }

        long says(int a, int b) {
            List<BigInteger[]> all = readings();
            long so = all.stream().filter(r -> compare(r, ratio(a, b)) >= 0).count();
            return all.isEmpty() ? NONE : so == all.size() ? 2 : so > 0 ? 1 : 0;
        }

        long young(int women, int how) {
            long n = 0;
            for (Sheet s : readSheets().values()) {
                n += s.lines.stream().filter(l -> l.age <= 14 && l.woman == (women == 1)).count();
            }
            return n + (how >= 1 ? left(NONE, women, 0) : 0) + (how == 2 ? left(NONE, women, 1) : 0);
        }

        void lay(int mark) {
            TreeMap<Integer, Sheet> copy = new TreeMap<>();
            sheets.forEach((n, s) -> copy.put(n, s.copy()));
            markSheets.put(mark, copy);
            markSides.put(mark, sides.clone());
        }

        boolean back(int mark) {
            if (!markSheets.containsKey(mark)) {
                return false;
            }
            sheets.clear();
            markSheets.get(mark).forEach((n, s) -> sheets.put(n, s.copy()));
            sides = markSides.get(mark).clone();
            return true;
        }

        long unfree() {
            return weddings().stream().filter(w -> w.he.tags.contains("slave") || w.he.tags.contains("lodger")
                    || w.she.tags.contains("slave") || w.she.tags.contains("lodger")).count();
        }
    }

    // ---- what is drawn

    private static final class Draws {
        final Random random;

        Draws(long seed) {
            random = new Random(seed);
        }

        int below(int n) {
            return random.nextInt(n);
        }

        boolean in(int n) {
            return random.nextInt(n) == 0;
        }

        String of(String words) {
            String[] list = words.split(" ");
            return list[below(list.length)];
        }

        String sheet(int village, int count) {
            StringBuilder text = new StringBuilder();
            String[] names = {"a", "b", "c", "d", "e", "f", "g", "h", "i", "j", "k", "l", "m"};
            List<String> picked = new ArrayList<>(Arrays.asList(names));
            Collections.shuffle(picked, random);
            int n = in(15) ? 13 : in(4) ? below(5) : 4 + below(9);
            List<String> men = new ArrayList<>();
            List<String> ahead = new ArrayList<>();
            for (int i = 0; i < n; i++) {
                String name = in(60) ? of("a b c") : picked.get(i);
                int p = name.charAt(0) - 'a' + village;
                boolean woman = in(12) ? in(2) : p % 2 == 1;
                int birth = p * 7 % 50 - 20;
                int age = Math.max(0, 14 * count - birth) + (in(4) ? below(5) - 2 : 0);
                if (in(2)) {
                    age = (age + 2) / 5 * 5;
                }
                text.append(woman ? "woman " : "man ").append(name).append(' ').append(Math.max(0, age));
                List<String> tags = new ArrayList<>();
                int parents = p / 4;
                if (!in(12)) {
                    tags.add("father " + (in(12) ? of("a b c d") : parents == 0 ? "x" : parents == 3 ? "c" : "a"));
                }
                if (!in(12)) {
                    tags.add("mother " + (in(12) ? of("a b c d") : parents == 0 ? "y" : parents == 3 ? "d" : "b"));
                }
                if (woman && !men.isEmpty() && !in(4)) {
                    String man = men.get(below(men.size()));
                    if (!in(30)) {
                        men.remove(man);
                    }
                    tags.add("wife " + man);
                    if (in(2)) {
                        tags.add("sister " + (in(4) ? ahead.get(below(ahead.size())) : man) + (in(2) ? " broken" : ""));
                    }
                } else if (woman && !ahead.isEmpty() && in(4)) {
                    tags.add("sister " + ahead.get(below(ahead.size())));
                }
                for (String tag : new String[] {"taken", "slave", "lodger"}) {
                    if (in(10)) {
                        tags.add(tag);
                    }
                }
                Collections.shuffle(tags, random);
                for (String tag : tags) {
                    text.append(in(5) ? "\n " : " ").append(tag);
                }
                text.append(in(5) ? " ; \n" : ";");
                ahead.add(name);
                if (!woman) {
                    men.add(name);
                }
            }
            return spoilt(text.toString(),
                    "man woman father mother wife sister broken taken slave lodger a b abcdefghi 5 121 12345 ; ( A");
        }

        String law() {
            StringBuilder text = new StringBuilder();
            int n = in(12) ? 7 : below(4);
            for (int i = 0; i < n; i++) {
                text.append("let when ").append(e(in(10) ? 0 : 2)).append(';');
            }
            return spoilt(text.toString(), "let when not and or ( ) < = + - * ; gap full sons 1 12345 abc abcdefghi $");
        }

        String e(int depth) {
            StringBuilder text = new StringBuilder(test(depth));
            while (in(3)) {
                text.append(in(2) ? " and " : " or ").append(test(depth));
            }
            return text.toString();
        }

        String test(int depth) {
            return in(2) ? sum(depth) : sum(depth) + of("< =") + sum(depth);
        }

        String sum(int depth) {
            StringBuilder text = new StringBuilder(product(depth));
            while (in(4)) {
                text.append(of("+ -")).append(product(depth));
            }
            return text.toString();
        }

        String product(int depth) {
            StringBuilder text = new StringBuilder(part(depth));
            while (in(4)) {
                text.append('*').append(part(depth));
            }
            return text.toString();
        }

        String part(int depth) {
            if (depth < 7 && in(3)) {
                return in(2) ? "not " + part(depth + 1) : "(" + e(depth + 1) + ")";
            }
            return in(3) ? of("0 1 2 3 10 14 9999") : of("gap his hers full half called cracked adopted sons sisters village side count");
        }

        String spoilt(String text, String words) {
            if (!in(4)) {
                return text;
            }
            int from = below(text.length() + 1);
            int to = Math.min(text.length(), from + below(4));
            return text.substring(0, from) + (in(2) ? " " : "") + of(words) + (in(2) ? " " : "") + text.substring(to);
        }
    }

    // ---- the runs

    private static long answer(LongSupplier call) {
        try {
            return call.getAsLong();
        } catch (NoSuchElementException e) {
            return THROWS;
        }
    }

    private static void compare(String what, LongSupplier call, long want) {
        if (calls == MOST_CALLS) {
            return;
        }
        asked++;
        calls++;
        long got = answer(call);
        if (got != want) {
            wrong++;
            if (wrong < 30) {
                System.out.println(what + " answered " + got + ", due is " + want);
            }
        }
    }

    private static void feed(ReedSheets x, Model m, String text, String run) {
        for (int i = 0; i < text.length(); i += 24) {
            long[] rows = new long[3];
            for (int k = 0; k < 24; k++) {
                char sign = i + k < text.length() ? text.charAt(i + k) : 0;
                rows[k / 8] = rows[k / 8] << 8 | sign;
                if (sign != 0 && m.tape.length() < 1000) {
                    m.tape.append(sign);
                }
            }
            compare(run + "feed " + text, () -> x.feed(rows[0], rows[1], rows[2]), m.tape.length());
        }
    }

    private static void change(ReedSheets x, Model m, Draws d, String run) {
        List<Integer> told = new ArrayList<>(m.sheets.keySet());
        int kind = d.below(24);
        boolean anew = kind < 5 || told.isEmpty();
        int n = d.in(20) ? d.below(26) - 1 : anew ? d.below(7) : told.get(d.below(told.size()));
        if (anew) {
            int v = d.in(20) ? d.below(8) - 1 : d.below(2);
            int c = d.in(20) ? d.below(10) - 1 : d.below(4);
            boolean so = n >= 0 && n < 24 && v >= 0 && v < 6 && c >= 0 && c < 8;
            compare(run + "sheet", () -> x.sheet(n, v, c) ? 1 : 0, so ? 1 : 0);
            if (so) {
                Sheet s = new Sheet();
                s.village = v;
                s.count = c;
                m.sheets.put(n, s);
            }
        } else if (kind < 15) {
            Sheet s = m.sheets.get(n);
            String text = s == null ? d.sheet(0, 0) : d.sheet(s.village, s.count);
            feed(x, m, text, run);
            compare(run + "read " + n + " " + text, () -> x.read(n), m.read(n));
        } else if (kind == 15) {
            int k = d.below(22) - 1;
            boolean so = m.sheets.containsKey(n) && k >= 0 && k <= 20;
            compare(run + "may", () -> x.may(n, k) ? 1 : 0, so ? 1 : 0);
            if (so) {
                m.sheets.get(n).may = k;
            }
        } else if (kind == 16) {
            boolean so = m.readSheets().containsKey(n);
            compare(run + "forget", () -> x.forget(n) ? 1 : 0, so ? 1 : 0);
            if (so) {
                m.sheets.get(n).lines = null;
            }
        } else if (kind == 17) {
            int mark = d.below(5) - (d.in(9) ? 1 : 0);
            boolean back = d.in(2);
            boolean so = mark >= 0 && mark <= 3;
            if (so && back) {
                so = m.back(mark);
            } else if (so) {
                m.lay(mark);
            }
            compare(run + "mark", () -> x.mark(mark, back) ? 1 : 0, so ? 1 : 0);
        } else {
            changeMore(x, m, d, run);
        }
    }

    private static void changeMore(ReedSheets x, Model m, Draws d, String run) {
        int kind = d.below(6);
        if (kind < 3) {
            int law = d.in(20) ? d.below(7) - 1 : d.below(4);
            String text = d.law();
            feed(x, m, text, run);
            compare(run + "law " + text, () -> x.law(law), m.law(law));
        } else if (kind == 3) {
            int v = d.below(4);
            int s = d.below(2);
            m.sides[v] = s;
            compare(run + "side", () -> x.side(v, s) ? 1 : 0, 1);
        } else if (kind == 4) {
            int t = d.below(4);
            int k = d.below(17);
            int n = d.in(4) ? 0 : d.below(1001);
            m.tables[t][k] = n;
            compare(run + "table", () -> x.table(t, k, n) ? 1 : 0, 1);
        } else {
            int g = d.below(67) - 33;
            boolean so = g >= -30 && g <= 30 && m.gaps.size() < 4;
            if (so) {
                m.gaps.add(g);
            }
            compare(run + "gap", () -> x.gap(g), so ? m.gaps.size() : NONE);
        }
    }

    private static void ask(ReedSheets x, Model m, Draws d, String run) {
        long[] counts = {m.sheets.size(), m.readSheets().size(), m.readSheets().values().stream().mapToInt(s -> s.lines.size())
            .sum(), m.houseCount(), m.gaps.size(), m.laws.stream().mapToInt(List::size).sum(), m.tape.length(), m.unfree()};
        for (int i = 0; i < 8; i++) {
            int what = i;
            compare(run + "count " + i, () -> x.count(what), counts[i]);
        }
        askShares(x, m, d, run);
        askLines(x, m, d, run);
        askLives(x, m, d, run);
        int i = d.below(30);
        for (int what = -1; what <= 7; what++) {
            int w = what;
            compare(run + "readings " + what, () -> x.readings(w), m.readings(w));
        }
        List<BigInteger[]> all = m.readings();
        for (int what = -1; what <= 2; what++) {
            int w = what;
            compare(run + "reading", () -> x.reading(i, w), i < all.size() ? Model.part(all.get(i), w, NONE) : NONE);
        }
        int a = d.below(20);
        int b = d.below(20) + 1;
        compare(run + "says", () -> x.says(a, b), m.says(a, b));
        for (int k = 0; k < 6; k++) {
            int women = k / 3;
            int how = k % 3;
            compare(run + "young", () -> x.young(women, how), m.young(women, how));
        }
        int law = d.below(4);
        int other = d.below(4);
        compare(run + "fails", () -> x.fails(law), m.fails(law));
        compare(run + "fittest", () -> x.fittest(), m.fittest());
        compare(run + "apart", () -> x.apart(law, other),
                m.weddings().stream().filter(w -> m.lets(law, w) && !m.lets(other, w)).count());
    }

    private static void askShares(ReedSheets x, Model m, Draws d, String run) {
        int scope = d.below(6) - 1;
        int which = d.below(5) - 1;
        int sort = d.below(7) - 1;
        int how = d.below(4);
        boolean so = m.isScope(scope, which);
        compare(run + "marriages", () -> x.marriages(scope, which, sort), !so || sort > 4 ? NONE
                : m.weddings(scope, which).stream().filter(w -> sort == NONE || w.sort == sort).count());
        for (int what = -1; what <= 4; what++) {
            int w = what;
            compare(run + "share", () -> x.share(scope, which, how, w),
                    so && how < 3 ? Model.part(Model.share(m.weddings(scope, which), how), w, NONE) : NONE);
            compare(run + "bounds", () -> x.bounds(w), m.bounds(w));
            compare(run + "heaping", () -> x.heaping(scope, which, w), m.heaping(scope, which, w));
            compare(run + "lean", () -> x.lean(w),
                    Model.part(Model.minus(Model.share(m.weddings(3, 0), 0), Model.share(m.weddings(3, 1), 0)), w, THROWS));
            int s = d.below(8);
            compare(run + "move", () -> x.move(s, w), Model.part(m.move(s), w, THROWS));
            List<Wedding> sure = m.weddings();
            sure.removeIf(v -> v.taken == 2);
            compare(run + "born", () -> x.born(false, w), Model.part(Model.share(sure, 0), w, NONE));
            List<Wedding> both = m.weddings();
            both.removeIf(v -> v.taken >= 1);
            compare(run + "born", () -> x.born(true, w), Model.part(Model.share(both, 0), w, NONE));
        }
        compare(run + "mover", () -> x.mover(), m.mover());
        compare(run + "next", () -> x.next(), m.next());
    }

    private static void askLines(ReedSheets x, Model m, Draws d, String run) {
        TreeMap<Integer, Sheet> read = m.readSheets();
        boolean[][] h = m.houses();
        for (int k = 0; k < 12; k++) {
            int s = one(read, d);
            int t = one(read, d);
            int i = d.below(11) - 1;
            int j = d.below(11) - 1;
            Sheet here = read.get(s);
            Sheet there = read.get(t);
            boolean hasI = here != null && i >= 0 && i < here.lines.size();
            boolean hasJ = here != null && j >= 0 && j < here.lines.size();
            Line l = hasI ? here.lines.get(i) : null;
            Wedding w = m.wedding(s, i);
            compare(run + "lines", () -> x.lines(s), here == null ? NONE : here.lines.size());
            compare(run + "house", () -> x.house(s, t), here == null || there == null || s == t ? NONE : h[s][t] ? 1 : 0);
            compare(run + "kin", () -> x.kin(s, i, j), hasI && hasJ && i != j ? Model.kin(l, here.lines.get(j)) : NONE);
            compare(run + "sort", () -> x.sort(s, i), w == null ? NONE : w.sort);
            compare(run + "taken", () -> x.taken(s, i), w == null ? NONE : w.taken);
            compare(run + "one", () -> x.one(s, i, t),
                    !hasI || there == null ? NONE : there.lines.indexOf(m.oneIn(here, l, there)));
            int law = d.below(4);
            compare(run + "lets", () -> x.lets(law, s, i), w == null ? NONE : m.lets(law, w) ? 1 : 0);
            TreeSet<Integer> known = hasI ? m.known(here, l) : new TreeSet<>();
            compare(run + "known", () -> x.known(s, i, 0), known.isEmpty() ? THROWS : known.first());
            compare(run + "known", () -> x.known(s, i, 1), known.isEmpty() ? THROWS : known.last());
            int women = d.below(2);
            int what = d.below(2);
            compare(run + "left", () -> x.left(s, women, what), m.left(s, women, what));
            compare(run + "left", () -> x.left(NONE, women, what), m.left(NONE, women, what));
            for (int q = -1; q <= 6; q++) {
                int asking = q;
                compare(run + "line", () -> x.line(s, i, asking), line(here, l, asking));
            }
        }
    }

    private static int one(TreeMap<Integer, Sheet> read, Draws d) {
        return read.isEmpty() || d.in(8) ? d.below(26) - 1 : new ArrayList<>(read.keySet()).get(d.below(read.size()));
    }

    private static long line(Sheet s, Line l, int what) {
        if (l == null || what < 0 || what > 5) {
            return THROWS;
        }
        String[] bits = {"broken", "taken", "slave", "lodger", "father", "mother"};
        long tags = 0;
        for (int i = 0; i < 6; i++) {
            tags += l.tags.contains(bits[i]) ? 1 << i : 0;
        }
        long[] answers = {l.woman ? 1 : 0, l.age, 2 * l.slack(), s.lines.indexOf(l.husband), s.lines.indexOf(l.sister), tags};
        return answers[what];
    }

    private static void askLives(ReedSheets x, Model m, Draws d, String run) {
        int t = d.below(4);
        int from = d.below(17);
        int age = d.below(121);
        int w = d.below(31);
        compare(run + "at", () -> x.at(t, age), m.at(t, age));
        compare(run + "fit", () -> x.fit(t, from), m.fit(t, from));
        compare(run + "best", () -> x.best(from), m.best(from));
        long living = 0;
        for (int k = 0; k < from; k++) {
            living += m.living(t, k);
        }
        int houses = d.below(40) + 1;
        int seed = d.below(10000);
        int odds = d.below(11);
        for (int what = 0; what < 2; what++) {
            int q = what;
            long sum = living;
            compare(run + "life", () -> x.life(t, from, q), Model.part(Model.ratio(5 * sum, 2000), q, NONE));
            compare(run + "could", () -> x.could(t, age, w, q), Model.part(m.could(t, age, w), q, NONE));
            compare(run + "sisters", () -> x.sisters(t, w, q), m.sisters(t, w, q));
            compare(run + "world", () -> x.world(seed, houses, t, w, odds, q), m.world(seed, houses, t, w, odds)[q]);
        }
        if (d.in(4)) {
            int seeds = d.below(20) + 1;
            int few = d.below(4) + 1;
            compare(run + "rates", () -> x.rates(seeds, few, t, w, odds), m.rates(seeds, few, t, w, odds));
        }
    }

    public static void main(String[] args) {
        int runs = args.length > 0 ? Integer.parseInt(args[0]) : 2000;
        long first = args.length > 1 ? Long.parseLong(args[1]) : 1;
        for (long seed = first; seed < first + runs; seed++) {
            calls = 0;
            ReedSheets x = new ReedSheets();
            Model m = new Model();
            Draws d = new Draws(seed);
            for (int step = 0; calls < CALLS_THAT_CHANGE; step++) {
                String run = "run " + seed + ", step " + step + ": ";
                change(x, m, d, run);
                if (d.in(4)) {
                    // What was found must be found anew when SHEETS change behind it.
                    compare(run + "houses", () -> x.count(3), m.houseCount());
                }
            }
            ask(x, m, d, "run " + seed + ": ");
        }
        System.out.println(wrong == 0 ? asked + " answers are as the model's" : wrong + " answers are not as the model's");
        if (wrong != 0) {
            System.exit(1);
        }
    }
}
