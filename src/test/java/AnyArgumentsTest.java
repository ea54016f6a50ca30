import java.lang.reflect.InvocationTargetException;
import java.lang.reflect.Method;
import java.lang.reflect.Modifier;
import java.util.Arrays;
import java.util.Comparator;
import java.util.List;
import java.util.NoSuchElementException;
import java.util.Random;

/** The face is the document's, and no call throws anything that the document does not tell, whatever it is given. */
public final class AnyArgumentsTest {
    private static final List<String> MAY_THROW = Arrays.asList("line", "move", "lean", "known");
    private static final String FACE = "boolean side(int,int) boolean sheet(int,int,int) boolean may(int,int)"
            + " int feed(long,long,long) int read(int) boolean forget(int) int lines(int) int line(int,int,int)"
            + " int kin(int,int,int) int sort(int,int) int marriages(int,int,int) int share(int,int,int,int) int move(int,int)"
            + " int mover() int lean(int) int bounds(int) int next() int heaping(int,int,int) int one(int,int,int)"
            + " int house(int,int) int known(int,int,int) int left(int,int,int) boolean table(int,int,int) int at(int,int)"
            + " long fit(int,int) int best(int) int life(int,int,int) int gap(int) long could(int,int,int,int)"
            + " long sisters(int,int,int) int taken(int,int) int born(boolean,int) int law(int) int lets(int,int,int)"
            + " int fails(int) int fittest() int apart(int,int) int world(int,int,int,int,int,int)"
            + " int rates(int,int,int,int,int) int readings(int) int reading(int,int) int says(int,int) int young(int,int)"
            + " boolean mark(int,boolean) int count(int)";
    private static final String[] TEXTS = {
        "man pa 50 father old mother she;woman ma 45 wife pa father old mother she;man bo 20 father pa mother ma;",
        "man bo 35 father pa mother ma;woman si 32 father pa mother ma wife bo;man zo 40 slave;woman wi 33 wife zo sister zo broken;",
        "let when full and gap<10 or not (his+hers*sons-sisters=village);let when side or count or half;",
        "let when ((((not 1", "man a 5 taken lodger slave", "let when", ";", "woman x 120;", "man q 99999;", ""};
    private static int wrong = 0;

    private static void wrong(String text) {
        wrong++;
        if (wrong < 30) {
            System.out.println(text);
        }
    }

    private static Method[] face() {
        Method[] methods = ReedSheets.class.getDeclaredMethods();
        Method[] found = Arrays.stream(methods).filter(m -> Modifier.isPublic(m.getModifiers())).toArray(Method[]::new);
        Arrays.sort(found, Comparator.comparing(Method::getName));
        return found;
    }

    private static String told(Method m) {
        StringBuilder text = new StringBuilder(m.getReturnType().toString()).append(' ').append(m.getName()).append('(');
        for (int i = 0; i < m.getParameterCount(); i++) {
            text.append(i == 0 ? "" : ",").append(m.getParameterTypes()[i]);
        }
        return text.append(')').toString();
    }

    private static void checkFace() {
        List<String> want = Arrays.asList(FACE.split("(?<=\\)) "));
        List<String> got = Arrays.asList(Arrays.stream(face()).map(AnyArgumentsTest::told).toArray(String[]::new));
        for (String w : want) {
            if (!got.contains(w)) {
                wrong("the face lacks " + w);
            }
        }
        for (String g : got) {
            if (!want.contains(g)) {
                wrong("the face has more: " + g);
            }
        }
        boolean others = Arrays.stream(ReedSheets.class.getDeclaredMethods())
                .anyMatch(m -> !Modifier.isPublic(m.getModifiers()) && !Modifier.isPrivate(m.getModifiers()));
        boolean fields = Arrays.stream(ReedSheets.class.getDeclaredFields())
                .anyMatch(f -> !Modifier.isPrivate(f.getModifiers()) && !f.getName().equals("NONE"));
        if (others || fields || !Modifier.isFinal(ReedSheets.class.getModifiers())) {
            wrong("there are other members that can be seen from outside, or the class is not final");
        }
    }

    private static Object draw(Class<?> type, Random random) {
        if (type == boolean.class) {
            return random.nextBoolean();
        }
        if (type == long.class) {
            return random.nextLong();
        }
        int[] ends = {Integer.MIN_VALUE, Integer.MAX_VALUE, -2, -1, 12, 24, 41, 121, 1000, 9999, 1 << 30, -(1 << 30)};
        int kind = random.nextInt(10);
        return kind == 0 ? random.nextInt() : kind == 1 ? ends[random.nextInt(ends.length)]
                : kind < 7 ? random.nextInt(3) : random.nextInt(24);
    }

    private static void feed(ReedSheets x, String text) {
        for (int i = 0; i < text.length(); i += 24) {
            long[] rows = new long[3];
            for (int k = 0; k < 24; k++) {
                char sign = i + k < text.length() ? text.charAt(i + k) : 0;
                rows[k / 8] = rows[k / 8] << 8 | sign;
            }
            x.feed(rows[0], rows[1], rows[2]);
        }
    }

    private static void run(long seed, Method[] face) throws IllegalAccessException {
        Random random = new Random(seed);
        ReedSheets x = new ReedSheets();
        for (int call = 0; call < 512; call++) {
            String text = TEXTS[random.nextInt(TEXTS.length)];
            if (random.nextInt(8) == 0 && call + text.length() / 24 + 2 < 512) {
                feed(x, text);
                call += (text.length() + 23) / 24;
            }
            Method m = random.nextInt(6) > 0 ? face[random.nextInt(face.length)]
                    : named(face, new String[] {"read", "law", "sheet"}[random.nextInt(3)]);
            Object[] given = Arrays.stream(m.getParameterTypes()).map(t -> draw(t, random)).toArray();
            try {
                m.invoke(x, given);
            } catch (InvocationTargetException e) {
                boolean due = e.getCause() instanceof NoSuchElementException && MAY_THROW.contains(m.getName());
                if (!due) {
                    wrong("run " + seed + ": " + m.getName() + Arrays.toString(given) + " threw " + e.getCause());
                }
            }
        }
    }

    private static Method named(Method[] face, String name) {
        return Arrays.stream(face).filter(m -> m.getName().equals(name)).findFirst().orElseThrow();
    }

    public static void main(String[] args) throws IllegalAccessException {
        checkFace();
        for (long seed = 0; seed < 900; seed++) {
            run(seed, face());
        }
        System.out.println(wrong == 0 ? "nothing throws that should not" : wrong + " calls were wrong");
        if (wrong != 0) {
            System.exit(1);
        }
    }
}
