import java.math.BigInteger;

/** What all tests use: counting wrong answers, and the document's formulas in BigInteger. */
final class Check {
    static final int[] WILD = {Integer.MIN_VALUE, -1000000000, -25, -1, 0, 1, 25, 1000000000, Integer.MAX_VALUE};
    private static int wrong = 0;

    private Check() {
    }

    static void due(String what, long got, long want) {
        if (got != want) {
            wrong++;
            System.out.println(what + ": answered " + got + ", due is " + want);
        }
    }

    static void yes(String what, boolean got) {
        due(what, got ? 1 : 0, 1);
    }

    static void no(String what, boolean got) {
        due(what, got ? 1 : 0, 0);
    }

    static void end() {
        if (wrong != 0) {
            System.out.println(wrong + " answers are not as due");
            System.exit(1);
        }
    }

    static long pair(long first, long second) {
        return first * 4294967296L + second;
    }

    static int stepPrice(int t) {
        int price = 65536;
        for (int i = 0; i < t; i++) {
            price = price * 1025 / 1000;
        }
        for (int i = 0; i > t; i--) {
            price = price * 1000 / 1025;
        }
        return price;
    }

    static long divide(BigInteger dividend, BigInteger divisor, boolean up) {
        BigInteger[] parts = dividend.divideAndRemainder(divisor);
        return parts[0].longValueExact() + (up && parts[1].signum() != 0 ? 1 : 0);
    }

    static BigInteger product(long... factors) {
        BigInteger all = BigInteger.ONE;
        for (long factor : factors) {
            all = all.multiply(BigInteger.valueOf(factor));
        }
        return all;
    }

    static long zero(long a, long b, long w, boolean up) {
        return divide(product(w, 65536, b - a), product(a, b), up);
    }

    static long one(long a, long b, long w, boolean up) {
        return divide(product(w, b - a), product(65536), up);
    }

    /** An open pool whose four owners have 1000000000 of each token. */
    static RangedPool richPool(int spacing, int fee, int step) {
        RangedPool pool = new RangedPool(spacing, fee);
        yes("open", pool.open(step));
        for (int owner = 0; owner < 4; owner++) {
            yes("fund", pool.fund(owner, 0, 1000000000));
            yes("fund", pool.fund(owner, 1, 1000000000));
        }
        return pool;
    }

    /** Everything that can be asked without a change, but for the lots of which the ranges are not given. */
    static String state(RangedPool pool, int[]... ranges) {
        StringBuilder all = new StringBuilder();
        all.append(pool.price()).append(' ').append(pool.step()).append(' ').append(pool.depth());
        for (int owner = 0; owner < 4; owner++) {
            all.append(' ').append(pool.wallet(owner, 0)).append(' ').append(pool.wallet(owner, 1));
            for (int[] range : ranges) {
                for (int what = 0; what < 3; what++) {
                    all.append(' ').append(pool.lot(owner, range[0], range[1], what));
                }
            }
        }
        all.append(' ').append(pool.reserve(0)).append(' ').append(pool.reserve(1));
        for (int step = -25; step <= 25; step++) {
            all.append(' ').append(pool.net(step));
        }
        for (int ago = 0; ago < 30; ago++) {
            all.append(' ').append(pool.observe(ago));
        }
        return all.toString();
    }

    static void same(String what, String got, String want) {
        if (!got.equals(want)) {
            wrong++;
            System.out.println(what + ": changed the state from\n  " + want + "\nto\n  " + got);
        }
    }
}
