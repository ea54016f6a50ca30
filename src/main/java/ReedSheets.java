import java.util.NoSuchElementException;

/** Sheets of reed with the people of houses, and what can be said of wives who are sisters. */
public final class ReedSheets {
    public static final int NONE = -1;

    private static final int VILLAGES = 6;
    private static final int SIDES = 2;
    private static final int COUNTS = 8;
    private static final int YEARS_APART = 14;
    private static final int SHEETS = 24;
    private static final int MOST_LINES = 12;
    private static final int MOST_MAY = 20;
    private static final int MOST_AGE = 120;
    private static final int TABLES = 4;
    private static final int LAWS = 4;
    private static final int MARKS = 4;
    private static final int MOST_W = 30;
    private static final int MOST_SEEDS = 20;

    private static final int FULL = 0;
    private static final int HALF = 1;
    private static final int CALLED = 2;
    private static final int BROKEN = 3;
    private static final int NO_KIN = 4;
    private static final int SORTS = 5;

    private static final int BIT_BROKEN = 1;
    private static final int BIT_TAKEN = 2;
    private static final int BIT_SLAVE = 4;
    private static final int BIT_LODGER = 8;
    private static final int BIT_SISTER = 128;
    private static final int TOLD_BITS = 63;

    private static final int FAULT_STAND = 1;
    private static final int FAULT_NOBODY = 2;
    private static final int FAULT_TWICE = 3;
    private static final int FAULT_NUMBER = 4;
    private static final int FAULT_MANY = 5;
    private static final int FAULT_WHOSE = 6;

    private static final String SHEET_WORDS =
            "father mother wife sister broken taken slave lodger man woman";
    private static final String LAW_WORDS =
            "gap his hers full half called cracked adopted sons sisters village side count and or not let when";

    private final Tape tape = new Tape();
    private final long[] sheetWords = Tape.codesOf(SHEET_WORDS);
    private final long[] lawWords = Tape.codesOf(LAW_WORDS);
    private final Shelf shelf = new Shelf();
    private final Shelf[] marks = new Shelf[MARKS];
    private final boolean[] laid = new boolean[MARKS];
    private final Houses houses = new Houses();
    private final Lives lives = new Lives();
    private final Law[] laws = new Law[LAWS];
    private final int[] facts = new int[Law.FACTS];
    private final World world = new World();
    private final int[] readAbove = new int[3 * 3 * (SHEETS + 1)];
    private final int[] readBelow = new int[3 * 3 * (SHEETS + 1)];

    public ReedSheets() {
        for (int i = 0; i < MARKS; i++) {
            marks[i] = new Shelf();
        }
        for (int i = 0; i < LAWS; i++) {
            laws[i] = new Law(new int[0], 0, 0);
        }
    }

    // ---- SHEETS and what stands on them

    public boolean side(int village, int side) {
        if (!isFrom(0, village, VILLAGES - 1) || !isFrom(0, side, SIDES - 1)) {
            return false;
        }
        shelf.sides[village] = side;
        return true;
    }

    public boolean sheet(int sheet, int village, int count) {
        if (!isFrom(0, sheet, SHEETS - 1) || !isFrom(0, village, VILLAGES - 1) || !isFrom(0, count, COUNTS - 1)) {
            return false;
        }
        shelf.tell(sheet, village, count);
        houses.stale = true;
        return true;
    }

    public boolean may(int sheet, int marriages) {
        if (!shelf.isTold(sheet) || !isFrom(0, marriages, MOST_MAY)) {
            return false;
        }
        shelf.may[sheet] = marriages;
        return true;
    }

    public int feed(long a, long b, long c) {
        tape.put(a);
        tape.put(b);
        tape.put(c);
        return tape.length;
    }

    public int read(int sheet) {
        if (!shelf.isTold(sheet)) {
            tape.length = 0;
            return NONE;
        }
        SheetReader reader = new SheetReader(tape, sheetWords);
        int fault = reader.parse();
        tape.length = 0;
        if (fault == 0) {
            reader.page.settle();
            shelf.pages[sheet] = reader.page;
            houses.stale = true;
        }
        return fault;
    }

    public boolean forget(int sheet) {
        if (shelf.pageOf(sheet) == null) {
            return false;
        }
        shelf.pages[sheet] = null;
        houses.stale = true;
        return true;
    }

    public int lines(int sheet) {
        Page page = shelf.pageOf(sheet);
        return page == null ? NONE : page.size;
    }

    public int line(int sheet, int line, int what) throws NoSuchElementException {
        Page page = shelf.pageOf(sheet);
        if (page == null || !page.has(line) || !isFrom(0, what, 5)) {
            throw new NoSuchElementException();
        }
        switch (what) {
            case 0:
                return page.woman[line] ? 1 : 0;
            case 1:
                return page.age[line];
            case 2:
                return 2 * page.slack(line);
            case 3:
                return page.husband[line];
            case 4:
                return page.sworn[line];
            default:
                return page.tags[line] & TOLD_BITS;
        }
    }

    public int kin(int sheet, int a, int b) {
        Page page = shelf.pageOf(sheet);
        if (page == null || !page.has(a) || !page.has(b) || a == b) {
            return NONE;
        }
        return page.isFull(a, page, b) ? 2 : page.isHalf(a, b) ? 1 : 0;
    }

    public int sort(int sheet, int line) {
        Page page = pageOfWife(sheet, line);
        return page == null ? NONE : page.sort[line];
    }

    // ---- what share of the wives that is

    public int marriages(int scope, int which, int sort) {
        if (!isScope(scope, which) || !isFrom(NONE, sort, SORTS - 1)) {
            return NONE;
        }
        Tally sum = gather(scope, which);
        return sort == NONE ? sum.all(0) : sum.ofSort(sort, 0);
    }

    public int share(int scope, int which, int how, int what) {
        if (!isScope(scope, which) || !isFrom(0, how, 2)) {
            return NONE;
        }
        Tally sum = gather(scope, which);
        return partOf(Ratio.of(sum.picked(how, 0), sum.all(0)), what);
    }

    public int move(int sheet, int what) throws NoSuchElementException {
        Ratio moved = moveOf(sheet, gather(0, 0));
        if (moved == null || !isFrom(0, what, 1)) {
            throw new NoSuchElementException();
        }
        return partOf(moved, what);
    }

    public int mover() {
        Tally all = gather(0, 0);
        int most = NONE;
        Ratio mostMoved = null;
        for (int s = 0; s < SHEETS; s++) {
            Ratio moved = moveOf(s, all);
            if (moved != null && (mostMoved == null || moved.isFartherThan(mostMoved))) {
                most = s;
                mostMoved = moved;
            }
        }
        return most;
    }

    public int lean(int what) throws NoSuchElementException {
        Tally here = gather(3, 0);
        Tally there = gather(3, 1);
        Ratio leaning = Ratio.difference(here.picked(0, 0), here.all(0), there.picked(0, 0), there.all(0));
        if (leaning == null || !isFrom(0, what, 1)) {
            throw new NoSuchElementException();
        }
        return partOf(leaning, what);
    }

    public int bounds(int what) {
        if (!isFrom(0, what, 3)) {
            return NONE;
        }
        Tally sum = gather(0, 0);
        int unread = 0;
        for (int s = 0; s < SHEETS; s++) {
            if (shelf.isUnread(s)) {
                unread += shelf.may[s];
            }
        }
        int above = sum.picked(0, 0) + (what >= 2 ? unread : 0);
        return partOf(Ratio.of(above, sum.all(0) + unread), what % 2);
    }

    public int next() {
        int found = NONE;
        for (int s = 0; s < SHEETS; s++) {
            if (shelf.isUnread(s) && (found == NONE || isSooner(s, found))) {
                found = s;
            }
        }
        return found;
    }

    // ---- AGES, and houses that are one over COUNTS

    public int heaping(int scope, int which, int what) {
        if (!isScope(scope, which)) {
            return NONE;
        }
        int fives = 0;
        int all = 0;
        for (int s = 0; s < SHEETS; s++) {
            Page page = shelf.pageWithin(s, scope, which);
            for (int i = 0; page != null && i < page.size; i++) {
                if (isFrom(10, page.age[i], 69)) {
                    all++;
                    fives += page.age[i] % 5 == 0 ? 1 : 0;
                }
            }
        }
        return partOf(Ratio.of(5 * fives, all), what);
    }

    public int one(int sheet, int line, int other) {
        return shelf.lineThatIsOne(sheet, line, other);
    }

    public int house(int a, int b) {
        if (shelf.pageOf(a) == null || shelf.pageOf(b) == null || a == b) {
            return NONE;
        }
        houses.refresh(shelf);
        return houses.root[a] == houses.root[b] ? 1 : 0;
    }

    public int known(int sheet, int line, int what) throws NoSuchElementException {
        Page page = shelf.pageOf(sheet);
        if (page == null || !page.has(line) || !isFrom(0, what, 1)) {
            throw new NoSuchElementException();
        }
        houses.refresh(shelf);
        int at = sheet * MOST_LINES + line;
        if (houses.first[at] > houses.last[at]) {
            throw new NoSuchElementException();
        }
        return what == 0 ? houses.first[at] : houses.last[at];
    }

    public int left(int sheet, int women, int what) {
        if (!isFrom(0, women, 1) || !isFrom(0, what, 1)) {
            return NONE;
        }
        if (sheet == NONE) {
            return leftOfAll(women, what);
        }
        if (shelf.pageOf(sheet) == null) {
            return NONE;
        }
        houses.refresh(shelf);
        return houses.leftOf(sheet, women, what);
    }

    // ---- TABLES of lives, and who could have had a sister

    public boolean table(int table, int k, int n) {
        if (!isTable(table) || !isFrom(0, k, Lives.LAST) || !isFrom(0, n, 1000)) {
            return false;
        }
        lives.live[table][k] = n;
        return true;
    }

    public int at(int table, int age) {
        return isTable(table) && isFrom(0, age, 200) ? lives.fifthsAt(table, age) : NONE;
    }

    public long fit(int table, int from) {
        if (!isTable(table) || !isFrom(0, from, Lives.LAST)) {
            return NONE;
        }
        return lives.misfit(table, from, groupLines());
    }

    public int best(int from) {
        if (!isFrom(0, from, Lives.LAST)) {
            return NONE;
        }
        int[] grouped = groupLines();
        int found = 0;
        long least = lives.misfit(0, from, grouped);
        for (int t = 1; t < TABLES; t++) {
            long misfit = lives.misfit(t, from, grouped);
            if (misfit < least) {
                found = t;
                least = misfit;
            }
        }
        return found;
    }

    public int life(int table, int below, int what) {
        if (!isTable(table) || !isFrom(0, below, Lives.GROUPS)) {
            return NONE;
        }
        return partOf(Ratio.of(5 * lives.livingBetween(table, 0, below), 2000), what);
    }

    public int gap(int years) {
        return isFrom(-30, years, 30) && lives.addGap(years) ? lives.gapCount : NONE;
    }

    public long could(int table, int age, int w, int what) {
        if (!isTable(table) || !isFrom(0, age, MOST_AGE) || !isFrom(0, w, MOST_W) || !isFrom(0, what, 1)) {
            return NONE;
        }
        Ratio odds = new Ratio(lives.oddsOfSister(table, age, w), Lives.WHOLE);
        return what == 0 ? odds.above : odds.below;
    }

    public long sisters(int table, int w, int what) {
        if (!isTable(table) || !isFrom(0, w, MOST_W) || !isFrom(0, what, 1)) {
            return NONE;
        }
        long sum = 0;
        long full = 0;
        for (int s = 0; s < SHEETS; s++) {
            Page page = shelf.pageOf(s);
            for (int i = 0; page != null && i < page.size; i++) {
                int his = page.husband[i];
                if (page.has(his)) {
                    sum += lives.oddsOfSister(table, page.age[his], w);
                    full += page.sort[i] == FULL ? 1 : 0;
                }
            }
        }
        if (what == 0) {
            return sum;
        }
        long more = full * Lives.WHOLE - sum;
        return more <= 0 ? 0 : (more + Lives.WHOLE - 1) / Lives.WHOLE;
    }

    // ---- sons who were taken in

    public int taken(int sheet, int line) {
        Page page = pageOfWife(sheet, line);
        return page == null ? NONE : page.adopted[line];
    }

    public int born(boolean perhaps, int what) {
        Tally sum = gather(0, 0);
        int leave = perhaps ? 2 : 1;
        return partOf(Ratio.of(sum.picked(0, leave), sum.all(leave)), what);
    }

    // ---- LAWS of marrying

    public int law(int law) {
        if (!isFrom(0, law, LAWS - 1)) {
            tape.length = 0;
            return NONE;
        }
        LawReader reader = new LawReader(tape, lawWords);
        int fault = reader.parse();
        tape.length = 0;
        if (fault == 0) {
            laws[law] = new Law(reader.code, reader.size, reader.lines);
        }
        return fault;
    }

    public int lets(int law, int sheet, int line) {
        Page page = pageOfWife(sheet, line);
        if (!isFrom(0, law, LAWS - 1) || page == null) {
            return NONE;
        }
        fillFacts(sheet, page, line);
        return laws[law].allows(facts) ? 1 : 0;
    }

    public int fails(int law) {
        return isFrom(0, law, LAWS - 1) ? countUnlet(null, laws[law]) : NONE;
    }

    public int fittest() {
        int found = 0;
        int fewest = countUnlet(null, laws[0]);
        for (int i = 1; i < LAWS; i++) {
            int failing = countUnlet(null, laws[i]);
            if (failing < fewest) {
                found = i;
                fewest = failing;
            }
        }
        return found;
    }

    public int apart(int law, int other) {
        if (!isFrom(0, law, LAWS - 1) || !isFrom(0, other, LAWS - 1)) {
            return NONE;
        }
        return countUnlet(laws[law], laws[other]);
    }

    // ---- WORLDS made with draws

    public int world(int seed, int houses, int table, int w, int odds, int what) {
        if (!isFrom(0, seed, 9999) || !isWorld(houses, table, w, odds) || !isFrom(0, what, 1)) {
            return NONE;
        }
        world.make(seed, houses, lives, table, w, odds);
        return what == 0 ? world.marriages : world.withSisters;
    }

    public int rates(int seeds, int houses, int table, int w, int odds) {
        Tally sum = gather(0, 0);
        int all = sum.all(0);
        if (!isFrom(1, seeds, MOST_SEEDS) || !isWorld(houses, table, w, odds) || all == 0) {
            return NONE;
        }
        int full = sum.picked(0, 0);
        int n = 0;
        for (int seed = 0; seed < seeds; seed++) {
            world.make(seed, houses, lives, table, w, odds);
            n += world.withSisters * all >= full * world.marriages ? 1 : 0;
        }
        return n;
    }

    // ---- READINGS, girls to boys, MARKS

    public int readings(int what) {
        int n = findReadings();
        if (what == 0) {
            return n;
        }
        if (!isFrom(1, what, 6) || n == 0) {
            return NONE;
        }
        int i = findUtmost(n, what > 3);
        int part = (what - 1) % 3;
        return part == 2 ? i : partOf(Ratio.of(readAbove[i], readBelow[i]), part);
    }

    public int reading(int i, int what) {
        int n = findReadings();
        return isFrom(0, i, n - 1) ? partOf(Ratio.of(readAbove[i], readBelow[i]), what) : NONE;
    }

    public int says(int a, int b) {
        int n = findReadings();
        if (!isFrom(0, a, 99) || !isFrom(1, b, 99) || n == 0) {
            return NONE;
        }
        int so = 0;
        for (int i = 0; i < n; i++) {
            so += readAbove[i] * b >= a * readBelow[i] ? 1 : 0;
        }
        return so == n ? 2 : so > 0 ? 1 : 0;
    }

    public int young(int women, int how) {
        if (!isFrom(0, women, 1) || !isFrom(0, how, 2)) {
            return NONE;
        }
        int n = 0;
        for (int s = 0; s < SHEETS; s++) {
            Page page = shelf.pageOf(s);
            for (int i = 0; page != null && i < page.size; i++) {
                n += page.woman[i] == (women == 1) && page.age[i] <= 14 ? 1 : 0;
            }
        }
        if (how >= 1) {
            n += leftOfAll(women, 0);
        }
        return how == 2 ? n + leftOfAll(women, 1) : n;
    }

    public boolean mark(int mark, boolean back) {
        if (!isFrom(0, mark, MARKS - 1) || back && !laid[mark]) {
            return false;
        }
        if (back) {
            shelf.copyFrom(marks[mark]);
            houses.stale = true;
        } else {
            marks[mark].copyFrom(shelf);
            laid[mark] = true;
        }
        return true;
    }

    public int count(int what) {
        switch (what) {
            case 0:
                return shelf.toldCount();
            case 1:
                return shelf.readCount();
            case 2:
                return shelf.lineCount();
            case 3:
                houses.refresh(shelf);
                return houses.countOf(shelf);
            case 4:
                return lives.gapCount;
            case 5:
                return lawLines();
            case 6:
                return tape.length;
            case 7:
                return unfreeMarriages();
            default:
                return NONE;
        }
    }

    // ---- what the face is made of

    private static boolean isFrom(int least, int n, int most) {
        return least <= n && n <= most;
    }

    private static boolean isTable(int table) {
        return isFrom(0, table, TABLES - 1);
    }

    private static boolean isWorld(int houses, int table, int w, int odds) {
        return isFrom(1, houses, 40) && isTable(table) && isFrom(0, w, MOST_W) && isFrom(0, odds, 10);
    }

    private static boolean isScope(int scope, int which) {
        switch (scope) {
            case 0:
                return true;
            case 1:
                return isFrom(0, which, VILLAGES - 1);
            case 2:
                return isFrom(0, which, COUNTS - 1);
            case 3:
                return isFrom(0, which, SIDES - 1);
            default:
                return false;
        }
    }

    private static int partOf(Ratio ratio, int what) {
        if (ratio == null || !isFrom(0, what, 1)) {
            return NONE;
        }
        return (int) (what == 0 ? ratio.above : ratio.below);
    }

    private Page pageOfWife(int sheet, int line) {
        Page page = shelf.pageOf(sheet);
        return page != null && page.has(line) && page.husband[line] != NONE ? page : null;
    }

    private Tally gather(int scope, int which) {
        Tally sum = new Tally();
        for (int s = 0; s < SHEETS; s++) {
            Page page = shelf.pageWithin(s, scope, which);
            if (page != null) {
                sum.add(page.tally);
            }
        }
        return sum;
    }

    private Ratio moveOf(int sheet, Tally all) {
        Page page = shelf.pageOf(sheet);
        if (page == null) {
            return null;
        }
        int full = all.picked(0, 0);
        int whole = all.all(0);
        return Ratio.difference(full - page.tally.picked(0, 0), whole - page.tally.all(0), full, whole);
    }

    /** Whether a SHEET is NEXT ahead of one with a lesser number. */
    private boolean isSooner(int sheet, int than) {
        if (shelf.may[sheet] != shelf.may[than]) {
            return shelf.may[sheet] > shelf.may[than];
        }
        return shelf.marriagesOf(shelf.village[sheet]) < shelf.marriagesOf(shelf.village[than]);
    }

    private int leftOfAll(int women, int what) {
        houses.refresh(shelf);
        int n = 0;
        for (int s = 0; s < SHEETS; s++) {
            n += houses.leftOf(s, women, what);
        }
        return n;
    }

    private int[] groupLines() {
        int[] grouped = new int[Lives.GROUPS];
        for (int s = 0; s < SHEETS; s++) {
            Page page = shelf.pageOf(s);
            for (int i = 0; page != null && i < page.size; i++) {
                grouped[Math.min(page.age[i] / 5, Lives.LAST)]++;
            }
        }
        return grouped;
    }

    private void fillFacts(int sheet, Page page, int hers) {
        int his = page.husband[hers];
        if (!page.has(his)) {
            return;
        }
        int village = shelf.village[sheet];
        facts[0] = page.age[his] - page.age[hers];
        facts[1] = page.age[his];
        facts[2] = page.age[hers];
        facts[3] = page.sort[hers] == FULL ? 1 : 0;
        facts[4] = page.sort[hers] == HALF ? 1 : 0;
        facts[5] = page.sort[hers] == CALLED ? 1 : 0;
        facts[6] = page.sort[hers] == BROKEN ? 1 : 0;
        facts[7] = Math.max(0, page.adopted[hers]);
        facts[8] = page.fullOthers(hers, his, false);
        facts[9] = page.fullOthers(his, hers, true);
        facts[10] = village;
        facts[11] = shelf.sides[village];
        facts[12] = shelf.count[sheet];
    }

    /** How many MARRIAGES one LAW LETS (null: each of them) and another one not. */
    private int countUnlet(Law first, Law second) {
        int n = 0;
        for (int s = 0; s < SHEETS; s++) {
            Page page = shelf.pageOf(s);
            for (int i = 0; page != null && i < page.size; i++) {
                if (page.husband[i] != NONE) {
                    fillFacts(s, page, i);
                    n += (first == null || first.allows(facts)) && !second.allows(facts) ? 1 : 0;
                }
            }
        }
        return n;
    }

    /** Lays the READINGS into their rows, those without a MARRIAGE left out: how many. */
    private int findReadings() {
        Tally all = gather(0, 0);
        int n = 0;
        for (int how = 0; how < 3; how++) {
            for (int leave = 0; leave < 3; leave++) {
                int above = all.picked(how, leave);
                int below = all.all(leave);
                n = addReading(n, above, below);
                for (int s = 0; s < SHEETS; s++) {
                    Page page = shelf.pageOf(s);
                    if (page != null) {
                        n = addReading(n, above - page.tally.picked(how, leave), below - page.tally.all(leave));
                    }
                }
            }
        }
        return n;
    }

    private int addReading(int n, int above, int below) {
        if (below <= 0 || n >= readAbove.length) {
            return n;
        }
        readAbove[n] = above;
        readBelow[n] = below;
        return n + 1;
    }

    private int findUtmost(int n, boolean greatest) {
        int found = 0;
        for (int i = 1; i < n; i++) {
            int less = readAbove[i] * readBelow[found] - readAbove[found] * readBelow[i];
            if (greatest ? less > 0 : less < 0) {
                found = i;
            }
        }
        return found;
    }

    private int lawLines() {
        int n = 0;
        for (int i = 0; i < LAWS; i++) {
            n += laws[i].lines;
        }
        return n;
    }

    private int unfreeMarriages() {
        int n = 0;
        for (int s = 0; s < SHEETS; s++) {
            Page page = shelf.pageOf(s);
            for (int i = 0; page != null && i < page.size; i++) {
                int his = page.husband[i];
                if (page.has(his)) {
                    n += ((page.tags[i] | page.tags[his]) & (BIT_SLAVE | BIT_LODGER)) != 0 ? 1 : 0;
                }
            }
        }
        return n;
    }

    /** A fraction in lowest terms, its lower part above 0. */
    private static final class Ratio {
        final long above;
        final long below;

        Ratio(long above, long below) {
            long common = Math.max(1, commonDivisor(Math.abs(above), below));
            this.above = above / common;
            this.below = below / common;
        }

        /** null: there is none. */
        static Ratio of(long above, long below) {
            return below <= 0 ? null : new Ratio(above, below);
        }

        /** One fraction less another one; null if one of them is none. */
        static Ratio difference(long above, long below, long lessAbove, long lessBelow) {
            if (below <= 0 || lessBelow <= 0) {
                return null;
            }
            return new Ratio(above * lessBelow - lessAbove * below, below * lessBelow);
        }

        private static long commonDivisor(long a, long b) {
            // Parts below 2 ^ 63 need fewer than 100 steps.
            for (int i = 0; i < 100 && b != 0; i++) {
                long rest = a % b;
                a = b;
                b = rest;
            }
            return a;
        }

        boolean isFartherThan(Ratio other) {
            return Math.abs(above) * other.below > Math.abs(other.above) * below;
        }
    }

    /** MARRIAGES counted by SORT, and by how the man was TAKEN IN (2, 1, 0; of other SORTS 0). */
    private static final class Tally {
        private final int[] counts = new int[SORTS * 3];

        void put(int sort, int takenIn) {
            counts[sort * 3 + takenIn]++;
        }

        void add(Tally other) {
            for (int i = 0; i < counts.length; i++) {
                counts[i] += other.counts[i];
            }
        }

        /** leave 0: none, 1: those TAKEN IN surely, 2: perhaps, too, are left out. */
        int ofSort(int sort, int leave) {
            int n = 0;
            for (int takenIn = 0; takenIn <= 2 - leave; takenIn++) {
                n += counts[sort * 3 + takenIn];
            }
            return n;
        }

        int all(int leave) {
            int n = 0;
            for (int sort = 0; sort < SORTS; sort++) {
                n += ofSort(sort, leave);
            }
            return n;
        }

        int picked(int how, int leave) {
            int n = ofSort(FULL, leave);
            if (how >= 1) {
                n += ofSort(CALLED, leave);
            }
            return how >= 2 ? n + ofSort(BROKEN, leave) : n;
        }
    }

    /** The signs that were fed, and the token that is read now. */
    private static final class Tape {
        static final int LONGEST = 1000;
        static final int END = 0;
        static final int WORD = 1;
        static final int NUMBER = 2;
        static final int SIGN = 3;
        static final int WRONG = 4;

        private static final String SIGNS = "()<=+-*;";

        private final char[] signs = new char[LONGEST];
        int length;
        private int ahead;
        int kind;
        int place;
        /** A WORD's code, a NUMBER, or a sign. */
        long value;

        void put(long bytes) {
            for (int shift = 56; shift >= 0; shift -= 8) {
                int sign = (int) (bytes >>> shift & 255);
                if ((sign == 10 || isFrom(32, sign, 126)) && length < LONGEST) {
                    signs[length] = (char) sign;
                    length++;
                }
            }
        }

        void start() {
            ahead = 0;
        }

        void advance() {
            while (ahead < length && (signs[ahead] == 10 || signs[ahead] == ' ')) {
                ahead++;
            }
            place = ahead;
            value = 0;
            if (ahead >= length) {
                kind = END;
            } else if (isFrom('a', signs[ahead], 'z')) {
                takeWord();
            } else if (isFrom('0', signs[ahead], '9')) {
                takeNumber();
            } else {
                value = signs[ahead];
                kind = SIGNS.indexOf(signs[ahead]) >= 0 ? SIGN : WRONG;
                ahead++;
            }
        }

        private void takeWord() {
            while (ahead < length && isFrom('a', signs[ahead], 'z')) {
                value = longer(value, signs[ahead]);
                ahead++;
            }
            kind = ahead - place <= 8 ? WORD : WRONG;
        }

        private void takeNumber() {
            while (ahead < length && isFrom('0', signs[ahead], '9')) {
                value = value * 10 + (signs[ahead] - '0');
                ahead++;
            }
            kind = ahead - place <= 4 ? NUMBER : WRONG;
        }

        boolean isSign(char sign) {
            return kind == SIGN && value == sign;
        }

        /** The number of the WORD that is read now in a row of codes; NONE: it is not there. */
        int wordIn(long[] codes) {
            for (int i = 0; kind == WORD && i < codes.length; i++) {
                if (codes[i] == value) {
                    return i;
                }
            }
            return NONE;
        }

        int fault(int faultKind) {
            return faultKind + 16 * place;
        }

        /** No two WORDS have the same code, as a letter is never 0; 0 is no WORD. */
        private static long longer(long code, char letter) {
            return code * 27 + (letter - 'a' + 1);
        }

        static long[] codesOf(String words) {
            int n = 1;
            for (int i = 0; i < words.length(); i++) {
                n += words.charAt(i) == ' ' ? 1 : 0;
            }
            long[] codes = new long[n];
            int word = 0;
            for (int i = 0; i < words.length() && word < n; i++) {
                if (words.charAt(i) == ' ') {
                    word++;
                } else {
                    codes[word] = longer(codes[word], words.charAt(i));
                }
            }
            return codes;
        }
    }

    /** What was READ of a SHEET; it never changes once it is settled, so MARKS may share it. */
    private static final class Page {
        int size;
        final long[] name = new long[MOST_LINES];
        final long[] father = new long[MOST_LINES];
        final long[] mother = new long[MOST_LINES];
        final boolean[] woman = new boolean[MOST_LINES];
        final int[] age = new int[MOST_LINES];
        final int[] tags = new int[MOST_LINES];
        final int[] husband = new int[MOST_LINES];
        final int[] sworn = new int[MOST_LINES];
        final int[] sort = new int[MOST_LINES];
        final int[] adopted = new int[MOST_LINES];
        final Tally tally = new Tally();

        boolean has(int line) {
            return isFrom(0, line, size - 1);
        }

        int lineOf(long wanted) {
            for (int i = 0; i < size; i++) {
                if (name[i] == wanted) {
                    return i;
                }
            }
            return NONE;
        }

        boolean hasWife(int man) {
            for (int i = 0; i < size; i++) {
                if (husband[i] == man) {
                    return true;
                }
            }
            return false;
        }

        /** By how much an AGE may be more or less. */
        int slack(int line) {
            return age[line] >= 10 && age[line] % 5 == 0 ? 2 : 0;
        }

        boolean isFull(int line, Page page, int other) {
            return father[line] != 0 && father[line] == page.father[other]
                    && mother[line] != 0 && mother[line] == page.mother[other];
        }

        boolean isHalf(int line, int other) {
            return father[line] != 0 && father[line] == father[other]
                    || mother[line] != 0 && mother[line] == mother[other];
        }

        /** How many women (or men) are FULL with a LINE, but for that one and one more. */
        int fullOthers(int line, int except, boolean women) {
            int n = 0;
            for (int i = 0; i < size; i++) {
                if (i != line && i != except && woman[i] == women && isFull(line, this, i)) {
                    n++;
                }
            }
            return n;
        }

        /** Whether a LINE of another SHEET has its father or its mother here. */
        boolean hasParentOf(Page page, int line) {
            int man = page.father[line] == 0 ? NONE : lineOf(page.father[line]);
            int wife = page.mother[line] == 0 ? NONE : lineOf(page.mother[line]);
            return man != NONE && !woman[man] || wife != NONE && woman[wife];
        }

        void settle() {
            for (int i = 0; i < size; i++) {
                sort[i] = NONE;
                adopted[i] = NONE;
                if (has(husband[i])) {
                    sort[i] = sortOf(i, husband[i]);
                    adopted[i] = adoptedOf(i, husband[i]);
                    tally.put(sort[i], Math.max(0, adopted[i]));
                }
            }
        }

        private int sortOf(int hers, int his) {
            if (isFull(hers, this, his)) {
                return FULL;
            }
            if (isHalf(hers, his)) {
                return HALF;
            }
            if (sworn[hers] != his) {
                return NO_KIN;
            }
            return (tags[hers] & BIT_BROKEN) == 0 ? CALLED : BROKEN;
        }

        private int adoptedOf(int hers, int his) {
            if (sort[hers] != FULL && sort[hers] != CALLED) {
                return NONE;
            }
            if (((tags[hers] | tags[his]) & BIT_TAKEN) != 0) {
                return 2;
            }
            return fullOthers(hers, his, false) == 0 ? 1 : 0;
        }
    }

    /** Reads the TAPE as a SHEET. */
    private static final class SheetReader {
        private static final int TAGS = 8;
        private static final int FATHER = 0;
        private static final int MOTHER = 1;
        private static final int WIFE = 2;
        private static final int SISTER = 3;
        private static final int TAG_BROKEN = 4;
        private static final int MAN = 8;
        private static final int WOMAN = 9;
        private static final int[] TAG_BITS = {16, 32, 64, BIT_SISTER, BIT_BROKEN, BIT_TAKEN, BIT_SLAVE, BIT_LODGER};

        private final Tape tape;
        private final long[] words;
        final Page page = new Page();

        SheetReader(Tape tape, long[] words) {
            this.tape = tape;
            this.words = words;
        }

        /** 0, or the FAULT. */
        int parse() {
            tape.start();
            for (int n = 0; n <= MOST_LINES; n++) {
                tape.advance();
                if (tape.kind == Tape.END) {
                    return 0;
                }
                int word = tape.wordIn(words);
                if (word != MAN && word != WOMAN) {
                    return tape.fault(FAULT_STAND);
                }
                if (n == MOST_LINES) {
                    return tape.fault(FAULT_MANY);
                }
                int fault = parseHead(n, word == WOMAN);
                if (fault == 0) {
                    fault = parseTags(n);
                }
                if (fault != 0) {
                    return fault;
                }
                page.size = n + 1;
            }
            return 0;
        }

        private int parseHead(int n, boolean woman) {
            page.woman[n] = woman;
            page.husband[n] = NONE;
            page.sworn[n] = NONE;
            tape.advance();
            if (!isName()) {
                return tape.fault(FAULT_STAND);
            }
            if (page.lineOf(tape.value) != NONE) {
                return tape.fault(FAULT_TWICE);
            }
            page.name[n] = tape.value;
            tape.advance();
            if (tape.kind != Tape.NUMBER) {
                return tape.fault(FAULT_STAND);
            }
            if (tape.value > MOST_AGE) {
                return tape.fault(FAULT_NUMBER);
            }
            page.age[n] = (int) tape.value;
            return 0;
        }

        private boolean isName() {
            return tape.kind == Tape.WORD && tape.wordIn(words) == NONE;
        }

        private int parseTags(int n) {
            // One more than there are TAGS: the last one is the ; or one that stands a second time.
            for (int i = 0; i <= TAGS; i++) {
                tape.advance();
                if (tape.isSign(';')) {
                    return 0;
                }
                int tag = tape.wordIn(words);
                if (!isFrom(0, tag, TAGS - 1)) {
                    return tape.fault(FAULT_STAND);
                }
                int fault = parseTag(n, tag);
                if (fault != 0) {
                    return fault;
                }
            }
            return tape.fault(FAULT_TWICE);
        }

        private int parseTag(int n, int tag) {
            if ((page.tags[n] & TAG_BITS[tag]) != 0) {
                return tape.fault(FAULT_TWICE);
            }
            boolean ofMan = !page.woman[n] && (tag == WIFE || tag == SISTER);
            boolean ofNothing = tag == TAG_BROKEN && (page.tags[n] & BIT_SISTER) == 0;
            if (ofMan || ofNothing) {
                return tape.fault(FAULT_WHOSE);
            }
            page.tags[n] |= TAG_BITS[tag];
            if (tag > SISTER) {
                return 0;
            }
            tape.advance();
            return isName() ? takeName(n, tag) : tape.fault(FAULT_STAND);
        }

        private int takeName(int n, int tag) {
            if (tag == FATHER) {
                page.father[n] = tape.value;
                return 0;
            }
            if (tag == MOTHER) {
                page.mother[n] = tape.value;
                return 0;
            }
            int other = page.lineOf(tape.value);
            if (other == NONE || tag == WIFE && page.woman[other]) {
                return tape.fault(FAULT_NOBODY);
            }
            if (tag == SISTER) {
                page.sworn[n] = other;
                return 0;
            }
            if (page.hasWife(other)) {
                return tape.fault(FAULT_TWICE);
            }
            page.husband[n] = other;
            return 0;
        }
    }

    /** SHEETS as they are told and READ, and SIDES: what a MARK holds. */
    private static final class Shelf {
        private final boolean[] told = new boolean[SHEETS];
        final int[] village = new int[SHEETS];
        final int[] count = new int[SHEETS];
        final int[] may = new int[SHEETS];
        final Page[] pages = new Page[SHEETS];
        final int[] sides = new int[VILLAGES];

        void tell(int sheet, int ofVillage, int ofCount) {
            told[sheet] = true;
            village[sheet] = ofVillage;
            count[sheet] = ofCount;
            may[sheet] = 2;
            pages[sheet] = null;
        }

        void copyFrom(Shelf other) {
            for (int s = 0; s < SHEETS; s++) {
                told[s] = other.told[s];
                village[s] = other.village[s];
                count[s] = other.count[s];
                may[s] = other.may[s];
                pages[s] = other.pages[s];
            }
            for (int v = 0; v < VILLAGES; v++) {
                sides[v] = other.sides[v];
            }
        }

        boolean isTold(int sheet) {
            return isFrom(0, sheet, SHEETS - 1) && told[sheet];
        }

        /** null: not READ. */
        Page pageOf(int sheet) {
            return isFrom(0, sheet, SHEETS - 1) ? pages[sheet] : null;
        }

        boolean isUnread(int sheet) {
            return isTold(sheet) && pages[sheet] == null;
        }

        /** null: not READ, or not of a SCOPE. */
        Page pageWithin(int sheet, int scope, int which) {
            Page page = pageOf(sheet);
            if (page == null || scope == 0) {
                return page;
            }
            int of = scope == 1 ? village[sheet] : scope == 2 ? count[sheet] : sides[village[sheet]];
            return of == which ? page : null;
        }

        int marriagesOf(int ofVillage) {
            int n = 0;
            for (int s = 0; s < SHEETS; s++) {
                Page page = pageWithin(s, 1, ofVillage);
                n += page != null ? page.tally.all(0) : 0;
            }
            return n;
        }

        int toldCount() {
            int n = 0;
            for (int s = 0; s < SHEETS; s++) {
                n += told[s] ? 1 : 0;
            }
            return n;
        }

        int readCount() {
            int n = 0;
            for (int s = 0; s < SHEETS; s++) {
                n += pages[s] != null ? 1 : 0;
            }
            return n;
        }

        int lineCount() {
            int n = 0;
            for (int s = 0; s < SHEETS; s++) {
                Page page = pages[s];
                n += page != null ? page.size : 0;
            }
            return n;
        }

        int yearOf(int sheet) {
            return YEARS_APART * count[sheet];
        }

        int firstBorn(int sheet, Page page, int line) {
            return yearOf(sheet) - page.age[line] - page.slack(line);
        }

        int lastBorn(int sheet, Page page, int line) {
            return yearOf(sheet) - page.age[line] + page.slack(line);
        }

        /** Whether LINES of two SHEETS could be ONE at all. */
        boolean canShareLines(int sheet, int other) {
            return pageOf(sheet) != null && pageOf(other) != null
                    && village[sheet] == village[other] && count[sheet] != count[other];
        }

        /** The LINE of another SHEET that is ONE with a LINE. */
        int lineThatIsOne(int sheet, int line, int other) {
            Page here = pageOf(sheet);
            Page there = pageOf(other);
            if (here == null || there == null || !here.has(line) || !canShareLines(sheet, other)) {
                return NONE;
            }
            return match(sheet, here, line, other, there);
        }

        /** The same of two SHEETS that can share LINES; there is at most one, as a NAME is there once. */
        int match(int sheet, Page here, int line, int other, Page there) {
            int found = there.lineOf(here.name[line]);
            if (found == NONE || here.woman[line] != there.woman[found] || !here.isFull(line, there, found)) {
                return NONE;
            }
            boolean meet = firstBorn(sheet, here, line) <= lastBorn(other, there, found)
                    && firstBorn(other, there, found) <= lastBorn(sheet, here, line);
            return meet ? found : NONE;
        }
    }

    /** ONE HOUSES, KNOWN years and LEFT OUT LINES, found anew when SHEETS have changed. */
    private static final class Houses {
        boolean stale = true;
        /** SHEETS of ONE HOUSE have the same root. */
        final int[] root = new int[SHEETS];
        final int[] first = new int[SHEETS * MOST_LINES];
        final int[] last = new int[SHEETS * MOST_LINES];
        private final int[] leftOut = new int[SHEETS * 4];

        void refresh(Shelf shelf) {
            if (!stale) {
                return;
            }
            stale = false;
            for (int s = 0; s < SHEETS; s++) {
                begin(shelf, s);
            }
            for (int s = 0; s < SHEETS; s++) {
                for (int t = s + 1; t < SHEETS; t++) {
                    if (join(shelf, s, t) >= 2) {
                        unite(s, t);
                    }
                }
            }
            for (int s = 0; s < SHEETS; s++) {
                for (int t = 0; t < SHEETS; t++) {
                    if (root[s] == root[t] && shelf.count[t] > shelf.count[s]) {
                        seekLeftOut(shelf, s, t);
                    }
                }
            }
        }

        private void begin(Shelf shelf, int sheet) {
            root[sheet] = sheet;
            for (int i = 0; i < 4; i++) {
                leftOut[sheet * 4 + i] = 0;
            }
            Page page = shelf.pageOf(sheet);
            for (int i = 0; page != null && i < page.size; i++) {
                first[sheet * MOST_LINES + i] = shelf.firstBorn(sheet, page, i);
                last[sheet * MOST_LINES + i] = shelf.lastBorn(sheet, page, i);
            }
        }

        /** Narrows what is KNOWN of LINES of two SHEETS that are ONE: how many they are. */
        private int join(Shelf shelf, int s, int t) {
            Page here = shelf.pageOf(s);
            Page there = shelf.pageOf(t);
            if (here == null || there == null || !shelf.canShareLines(s, t)) {
                return 0;
            }
            int n = 0;
            for (int i = 0; i < here.size; i++) {
                int j = shelf.match(s, here, i, t, there);
                if (j != NONE) {
                    n++;
                    narrow(s * MOST_LINES + i, shelf.firstBorn(t, there, j), shelf.lastBorn(t, there, j));
                    narrow(t * MOST_LINES + j, shelf.firstBorn(s, here, i), shelf.lastBorn(s, here, i));
                }
            }
            return n;
        }

        private void narrow(int at, int from, int to) {
            first[at] = Math.max(first[at], from);
            last[at] = Math.min(last[at], to);
        }

        private void unite(int s, int t) {
            int kept = root[s];
            int gone = root[t];
            for (int i = 0; i < SHEETS; i++) {
                if (root[i] == gone) {
                    root[i] = kept;
                }
            }
        }

        /** Counts the LINES of a later SHEET of ONE HOUSE that are LEFT OUT of one. */
        private void seekLeftOut(Shelf shelf, int sheet, int later) {
            Page page = shelf.pageOf(sheet);
            Page there = shelf.pageOf(later);
            if (page == null || there == null) {
                return;
            }
            int year = shelf.yearOf(sheet);
            for (int i = 0; i < there.size; i++) {
                int from = first[later * MOST_LINES + i];
                int to = last[later * MOST_LINES + i];
                if (from <= to && from < year && page.hasParentOf(there, i)
                        && shelf.match(later, there, i, sheet, page) == NONE) {
                    leftOut[sheet * 4 + (there.woman[i] ? 2 : 0) + (to < year ? 0 : 1)]++;
                }
            }
        }

        int leftOf(int sheet, int women, int what) {
            return leftOut[sheet * 4 + women * 2 + what];
        }

        int countOf(Shelf shelf) {
            int n = 0;
            for (int s = 0; s < SHEETS; s++) {
                n += shelf.pageOf(s) != null && root[s] == s ? 1 : 0;
            }
            return n;
        }
    }

    /** TABLES of lives, and GAPS. */
    private static final class Lives {
        static final int LAST = 16;
        static final int GROUPS = 17;
        static final int MOST_GAPS = 4;
        /** COULD counted in parts: 10000 of each GAP. */
        static final long WHOLE = 10_000_000_000_000_000L;

        final int[][] live = new int[TABLES][GROUPS];
        private final int[] gaps = new int[MOST_GAPS];
        int gapCount;

        Lives() {
            for (int t = 0; t < TABLES; t++) {
                for (int k = 0; k < GROUPS; k++) {
                    live[t][k] = 1000;
                }
            }
        }

        boolean addGap(int years) {
            if (gapCount >= MOST_GAPS) {
                return false;
            }
            gaps[gapCount] = years;
            gapCount++;
            return true;
        }

        int fifthsAt(int table, int age) {
            int k = age / 5;
            if (k >= LAST) {
                return live[table][LAST] * 5;
            }
            return live[table][k] * (5 - age % 5) + live[table][k + 1] * (age % 5);
        }

        private int living(int table, int k) {
            return k < LAST ? live[table][k] + live[table][k + 1] : live[table][LAST];
        }

        long livingBetween(int table, int from, int below) {
            long n = 0;
            for (int k = from; k < below; k++) {
                n += living(table, k);
            }
            return n;
        }

        long misfit(int table, int from, int[] grouped) {
            long allLines = 0;
            for (int k = from; k < GROUPS; k++) {
                allLines += grouped[k];
            }
            long allLiving = livingBetween(table, from, GROUPS);
            long sum = 0;
            for (int k = from; k < GROUPS; k++) {
                sum += Math.abs(grouped[k] * allLiving - living(table, k) * allLines);
            }
            return sum;
        }

        /** COULD, in parts of WHOLE. */
        long oddsOfSister(int table, int age, int w) {
            long without = 1;
            for (int i = 0; i < MOST_GAPS; i++) {
                boolean asked = i < gapCount && Math.abs(gaps[i]) <= w && age + gaps[i] >= 0;
                without *= asked ? 10000 - fifthsAt(table, age + gaps[i]) : 10000;
            }
            return WHOLE - without;
        }
    }

    /** A LAW as steps for a stack: NUMBERS, facts, what joins them, and the ends of lines. */
    private static final class Law {
        static final int FACTS = 13;
        static final int FIRST_FACT = 10000;
        static final int LINE_END = 20000;
        static final int NOT = 20001;
        static final int AND = 20002;
        static final int OR = 20003;
        static final int LESS = 20004;
        static final int SAME = 20005;
        static final int PLUS = 20006;
        static final int MINUS = 20007;
        static final int TIMES = 20008;

        private final int[] code;
        private final int size;
        final int lines;
        // At most 4 wait at each of 5 depths.
        private final int[] stack = new int[32];

        Law(int[] code, int size, int lines) {
            this.code = code;
            this.size = size;
            this.lines = lines;
        }

        boolean allows(int[] facts) {
            int top = 0;
            for (int i = 0; i < size && i < code.length; i++) {
                int step = code[i];
                if (step == LINE_END) {
                    if (top > 0 && stack[top - 1] != 0) {
                        return true;
                    }
                    top = 0;
                } else if (step == NOT) {
                    if (top > 0) {
                        stack[top - 1] = stack[top - 1] == 0 ? 1 : 0;
                    }
                } else if (step > NOT) {
                    if (top > 1) {
                        top--;
                        stack[top - 1] = joined(step, stack[top - 1], stack[top]);
                    }
                } else if (top < stack.length) {
                    int fact = step - FIRST_FACT;
                    stack[top] = isFrom(0, fact, facts.length - 1) ? facts[fact] : step;
                    top++;
                }
            }
            return false;
        }

        private static int joined(int step, int a, int b) {
            switch (step) {
                case AND:
                    return a != 0 && b != 0 ? 1 : 0;
                case OR:
                    return a != 0 || b != 0 ? 1 : 0;
                case LESS:
                    return a < b ? 1 : 0;
                case SAME:
                    return a == b ? 1 : 0;
                case PLUS:
                    return a + b;
                case MINUS:
                    return a - b;
                default:
                    return a * b;
            }
        }
    }

    /** Reads the TAPE as a LAW. */
    private static final class LawReader {
        private static final int MOST_LAW_LINES = 6;
        private static final int MOST_WITHIN = 4;
        private static final int WORD_AND = 13;
        private static final int WORD_OR = 14;
        private static final int WORD_NOT = 15;
        private static final int WORD_LET = 16;
        private static final int WORD_WHEN = 17;

        private final Tape tape;
        private final long[] words;
        final int[] code;
        int size;
        int lines;

        LawReader(Tape tape, long[] words) {
            this.tape = tape;
            this.words = words;
            // No token makes more than one step.
            this.code = new int[Math.max(0, tape.length)];
        }

        /** 0, or the FAULT. */
        int parse() {
            tape.start();
            for (int n = 0; n <= MOST_LAW_LINES; n++) {
                tape.advance();
                if (tape.kind == Tape.END) {
                    return 0;
                }
                if (tape.wordIn(words) != WORD_LET) {
                    return tape.fault(FAULT_STAND);
                }
                if (n == MOST_LAW_LINES) {
                    return tape.fault(FAULT_MANY);
                }
                int fault = parseLawLine();
                if (fault != 0) {
                    return fault;
                }
                lines = n + 1;
            }
            return 0;
        }

        private int parseLawLine() {
            tape.advance();
            if (tape.wordIn(words) != WORD_WHEN) {
                return tape.fault(FAULT_STAND);
            }
            tape.advance();
            int fault = parseWhole(0);
            if (fault != 0) {
                return fault;
            }
            emit(Law.LINE_END);
            return tape.isSign(';') ? 0 : tape.fault(FAULT_STAND);
        }

        private void emit(int step) {
            if (size < code.length) {
                code[size] = step;
                size++;
            }
        }

        /** An E; like all that follow it begins at its first token and ends at the one behind it. */
        private int parseWhole(int within) {
            int fault = parseTest(within);
            for (int i = 0; fault == 0 && i < Tape.LONGEST; i++) {
                int word = tape.wordIn(words);
                if (word != WORD_AND && word != WORD_OR) {
                    return 0;
                }
                tape.advance();
                fault = parseTest(within);
                emit(word == WORD_AND ? Law.AND : Law.OR);
            }
            return fault;
        }

        private int parseTest(int within) {
            int fault = parseSum(within);
            boolean less = tape.isSign('<');
            if (fault != 0 || !less && !tape.isSign('=')) {
                return fault;
            }
            tape.advance();
            fault = parseSum(within);
            emit(less ? Law.LESS : Law.SAME);
            return fault;
        }

        private int parseSum(int within) {
            int fault = parseProduct(within);
            for (int i = 0; fault == 0 && i < Tape.LONGEST; i++) {
                boolean plus = tape.isSign('+');
                if (!plus && !tape.isSign('-')) {
                    return 0;
                }
                tape.advance();
                fault = parseProduct(within);
                emit(plus ? Law.PLUS : Law.MINUS);
            }
            return fault;
        }

        private int parseProduct(int within) {
            int fault = parsePart(within);
            for (int i = 0; fault == 0 && i < Tape.LONGEST && tape.isSign('*'); i++) {
                tape.advance();
                fault = parsePart(within);
                emit(Law.TIMES);
            }
            return fault;
        }

        private int parsePart(int within) {
            int word = tape.wordIn(words);
            boolean isFact = isFrom(0, word, Law.FACTS - 1);
            boolean opens = tape.isSign('(');
            if (!isFact && !opens && word != WORD_NOT && tape.kind != Tape.NUMBER) {
                return tape.fault(FAULT_STAND);
            }
            if (within > MOST_WITHIN) {
                return tape.fault(FAULT_MANY);
            }
            if (opens) {
                return parseInner(within + 1);
            }
            if (word == WORD_NOT) {
                tape.advance();
                int fault = parsePart(within + 1);
                emit(Law.NOT);
                return fault;
            }
            emit(isFact ? Law.FIRST_FACT + word : (int) tape.value);
            tape.advance();
            return 0;
        }

        private int parseInner(int within) {
            tape.advance();
            int fault = parseWhole(within);
            if (fault != 0) {
                return fault;
            }
            if (!tape.isSign(')')) {
                return tape.fault(FAULT_STAND);
            }
            tape.advance();
            return 0;
        }
    }

    /** A WORLD that is made with DRAWS. */
    private static final class World {
        private static final int MOST_CHILDREN = 6;

        int marriages;
        int withSisters;
        private long g;
        private int children;
        private final int[] age = new int[MOST_CHILDREN];
        private final boolean[] girl = new boolean[MOST_CHILDREN];
        private final boolean[] alive = new boolean[MOST_CHILDREN];
        private final boolean[] married = new boolean[MOST_CHILDREN];

        void make(int seed, int houseCount, Lives lives, int table, int w, int odds) {
            g = seed;
            marriages = 0;
            withSisters = 0;
            for (int h = 0; h < houseCount; h++) {
                bear(lives, table);
                marry(w, odds);
            }
        }

        private int draw(int below) {
            g = (g * 1103515245L + 12345) % 2147483648L;
            return below <= 0 ? 0 : (int) (g / 65536 % below);
        }

        private void bear(Lives lives, int table) {
            children = draw(MOST_CHILDREN) + 1;
            int years = 45;
            for (int i = 0; i < children && i < MOST_CHILDREN; i++) {
                girl[i] = draw(2) == 1;
                years -= draw(5) + 1;
                age[i] = years;
                alive[i] = draw(5000) < lives.fifthsAt(table, Math.max(0, years));
                married[i] = false;
            }
        }

        private void marry(int w, int odds) {
            for (int i = 0; i < children && i < MOST_CHILDREN; i++) {
                if (!girl[i] && alive[i] && age[i] >= 15) {
                    marriages++;
                    int sister = oldestSisterFor(i, w);
                    if (sister != NONE && draw(10) < odds) {
                        married[sister] = true;
                        withSisters++;
                    }
                }
            }
        }

        private int oldestSisterFor(int man, int w) {
            for (int i = 0; i < children && i < MOST_CHILDREN; i++) {
                if (girl[i] && alive[i] && age[i] >= 12 && !married[i] && Math.abs(age[i] - age[man]) <= w) {
                    return i;
                }
            }
            return NONE;
        }
    }
}
