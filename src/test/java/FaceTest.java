import java.lang.management.ManagementFactory;
import java.lang.reflect.Constructor;
import java.lang.reflect.Field;
import java.lang.reflect.Method;
import java.lang.reflect.Modifier;
import java.util.Random;
import java.util.Set;
import java.util.TreeSet;

/** The public face as it stands in the document; no call throws; no call but the constructor makes objects. */
public final class FaceTest {
    private static final int[] WILD =
        {Integer.MIN_VALUE, -1000000000, -25, -1, 0, 1, 25, 1000000000, Integer.MAX_VALUE};
    private static final int ROUNDS = 24;
    private static final Set<String> FACE = Set.of(
        "CLOSED = -1", "BAD = -2", "NO_LOT = -3", "FULL = -4", "POOR = -5", "OLD = -1000000000",
        "public RangedPool(int,int)",
        "public boolean RangedPool.open(int)",
        "public boolean RangedPool.fund(int,int,int)",
        "public long RangedPool.mint(int,int,int,int)",
        "public long RangedPool.burn(int,int,int,int)",
        "public long RangedPool.collect(int,int,int)",
        "public long RangedPool.swap(int,boolean,int,int)",
        "public long RangedPool.quote(boolean,int,int)",
        "public long RangedPool.flash(int,int,int)",
        "public boolean RangedPool.advance(int)",
        "public long RangedPool.observe(int)",
        "public int RangedPool.price()",
        "public int RangedPool.step()",
        "public int RangedPool.depth()",
        "public long RangedPool.wallet(int,int)",
        "public long RangedPool.reserve(int)",
        "public long RangedPool.lot(int,int,int,int)",
        "public int RangedPool.net(int)");

    public static void main(String[] args) throws IllegalAccessException {
        wildCalls();
        makesNoObjects();
        face();
        Check.end();
    }

    private static void face() throws IllegalAccessException {
        Check.sentence("The public face");
        Set<String> found = new TreeSet<>();
        Set<String> publicNames = new TreeSet<>();
        for (Field field : RangedPool.class.getDeclaredFields()) {
            if (!Modifier.isPrivate(field.getModifiers())) {
                Check.due(field + " is public static final", field.getModifiers(),
                    Modifier.PUBLIC | Modifier.STATIC | Modifier.FINAL);
                found.add(field.getName() + " = " + field.getInt(null));
            }
        }
        for (Constructor<?> constructor : RangedPool.class.getDeclaredConstructors()) {
            found.add(constructor.toString());
        }
        for (Method method : RangedPool.class.getDeclaredMethods()) {
            if (!Modifier.isPrivate(method.getModifiers())) {
                found.add(method.toString());
                publicNames.add(method.getName());
            }
        }
        Check.yes("the face is " + found, found.equals(FACE));
        Check.yes("public and final", RangedPool.class.getModifiers() == (Modifier.PUBLIC | Modifier.FINAL));
        for (Method method : RangedPool.class.getDeclaredMethods()) {
            Check.no(method + " has a public name",
                Modifier.isPrivate(method.getModifiers()) && publicNames.contains(method.getName()));
        }
        for (Class<?> inside : RangedPool.class.getDeclaredClasses()) {
            Check.yes(inside + " is static", Modifier.isStatic(inside.getModifiers()));
            Check.no(inside + " is public", Modifier.isPublic(inside.getModifiers()));
            Check.no(inside + " is protected", Modifier.isProtected(inside.getModifiers()));
        }
    }

    /** Wild numbers: a thrown exception ends the test. */
    private static void wildCalls() {
        Random random = new Random(99);
        for (int run = 0; run < 400; run++) {
            RangedPool pool = new RangedPool(wild(random), wild(random));
            for (int i = 0; i < Pool.MOST_CALLS; i++) {
                anyCall(pool, random);
            }
        }
    }

    private static int wild(Random random) {
        switch (random.nextInt(12)) {
            case 0:
                return WILD[random.nextInt(WILD.length)];
            case 1:
                return random.nextInt();
            case 2:
            case 3:
                return random.nextInt(2000001) - 1000000;
            case 4:
                return random.nextInt(1000);
            case 5:
            case 6:
                return random.nextInt(53) - 26;
            default:
                return random.nextInt(4);
        }
    }

    private static int step(Random random) {
        return random.nextInt(8) == 0 ? wild(random) : random.nextInt(51) - 25;
    }

    private static long anyCall(RangedPool pool, Random random) {
        int a = wild(random);
        int b = step(random);
        int c = step(random);
        int d = wild(random);
        boolean down = random.nextBoolean();
        switch (random.nextInt(18)) {
            case 0:
                return pool.open(b) ? 1 : 0;
            case 1:
            case 2:
                return pool.fund(a, d, 1000000000) ? 1 : 0;
            case 3:
                return pool.mint(a, b, c, d);
            case 4:
                return pool.burn(a, b, c, d);
            case 5:
                return pool.collect(a, b, c);
            case 6:
            case 7:
                return pool.swap(a, down, d, c);
            case 8:
                return pool.quote(down, d, c);
            case 9:
                return pool.flash(a, d, wild(random));
            case 10:
                return pool.advance(d) ? 1 : 0;
            case 11:
                return pool.observe(d);
            case 12:
                return pool.wallet(a, d);
            case 13:
                return pool.reserve(a);
            case 14:
                return pool.lot(a, b, c, d);
            case 15:
                return pool.net(b);
            default:
                return pool.price() + pool.step() + pool.depth();
        }
    }

    private static void makesNoObjects() {
        com.sun.management.ThreadMXBean threads = (com.sun.management.ThreadMXBean) ManagementFactory.getThreadMXBean();
        RangedPool pool = new RangedPool(1, 3);
        pool.open(0);
        for (int owner = 0; owner < 4; owner++) {
            pool.fund(owner, 0, 1000000000);
            pool.fund(owner, 1, 1000000000);
        }
        oneRound(pool);
        long before = threads.getCurrentThreadAllocatedBytes();
        for (int i = 0; i < ROUNDS; i++) {
            oneRound(pool);
        }
        long made = threads.getCurrentThreadAllocatedBytes() - before;
        Check.yes(made + " bytes made: less than the smallest object a round", made < ROUNDS * 16);
    }

    /** 18 calls. */
    private static long oneRound(RangedPool pool) {
        long all = pool.mint(0, -4, 4, 50000) + pool.mint(1, -8, 2, 5000);
        all += pool.swap(2, true, 20000, -24) + pool.quote(false, 20000, 24) + pool.swap(2, false, -20000, 24);
        all += pool.flash(3, 10, 10) + pool.observe(0) + pool.observe(9) + pool.lot(0, -4, 4, 1) + pool.net(2);
        all += pool.burn(0, -4, 4, 50000) + pool.burn(1, -8, 2, 5000);
        all += pool.collect(0, -4, 4) + pool.collect(1, -8, 2);
        return all + (pool.advance(3) ? 1 : 0) + pool.wallet(0, 0) + pool.reserve(1) + pool.depth();
    }
}
