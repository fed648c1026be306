import java.math.BigInteger;

/** What all tests use: counting wrong answers, and the document's formulas in BigInteger. */
final class Check {
    /** No owner, on either side. */
    static final int[] NO_OWNERS = {-1, 4, Integer.MIN_VALUE, Integer.MAX_VALUE};
    /** No token, on either side. */
    static final int[] NO_TOKENS = {-1, 2, Integer.MIN_VALUE, Integer.MAX_VALUE};
    /** No step, on either side. */
    static final int[] NO_STEPS = {-25, 25, Integer.MIN_VALUE, Integer.MAX_VALUE};

    private static int wrong = 0;
    private static String sentence = "";

    private Check() {
    }

    /** The words of the document that are tested from here on; they are told with every wrong answer. */
    static void sentence(String words) {
        sentence = "\"" + words + "\"";
    }

    /** The same, where several tests share the words. */
    static void sentence(String words, String which) {
        sentence = "\"" + words + "\" (" + which + ")";
    }

    static void due(String what, long got, long want) {
        if (got != want) {
            fail(what + ": answered " + got + ", due is " + want);
        }
    }

    static void yes(String what, boolean got) {
        due(what, got ? 1 : 0, 1);
    }

    static void no(String what, boolean got) {
        due(what, got ? 1 : 0, 0);
    }

    /** The call answers this code (0 for false), and what the face can show is the same behind it. */
    static void refused(String what, Pool pool, long code, Pool.Call call) {
        unchanged(what, pool, code, call);
    }

    /** The call answers this, and what the face can show is the same behind it. */
    static void unchanged(String what, Pool pool, long want, Pool.Call call) {
        View before = View.of(pool);
        due(what, pool.answer(call), want);
        String difference = View.of(pool).differenceFrom(before);
        if (difference != null) {
            fail(what + ": changed something: " + difference);
        }
    }

    private static void fail(String text) {
        wrong++;
        System.out.println(sentence.isEmpty() ? text : sentence + "\n  " + text);
    }

    static void end() {
        if (wrong != 0) {
            System.out.println(wrong + " answers are not as due");
            System.exit(1);
        }
    }

    static long pair(long first, long second) {
        return first * 4294967296L + second;
    }

    static int stepPrice(int t) {
        int price = 65536;
        for (int i = 0; i < t; i++) {
            price = price * 1025 / 1000;
        }
        for (int i = 0; i > t; i--) {
            price = price * 1000 / 1025;
        }
        return price;
    }

    static long divide(BigInteger dividend, BigInteger divisor, boolean up) {
        BigInteger[] parts = dividend.divideAndRemainder(divisor);
        return parts[0].longValueExact() + (up && parts[1].signum() != 0 ? 1 : 0);
    }

    static BigInteger product(long... factors) {
        BigInteger all = BigInteger.ONE;
        for (long factor : factors) {
            all = all.multiply(BigInteger.valueOf(factor));
        }
        return all;
    }

    static long zero(long a, long b, long w, boolean up) {
        return divide(product(w, 65536, b - a), product(a, b), up);
    }

    static long one(long a, long b, long w, boolean up) {
        return divide(product(w, b - a), product(65536), up);
    }

    static Pool openPool(int spacing, int fee, int step) {
        Pool pool = new Pool(spacing, fee);
        yes("open(" + step + ")", pool.open(step));
        return pool;
    }

    /** An open pool whose four owners have 1000000000 of each token. */
    static Pool richPool(int spacing, int fee, int step) {
        Pool pool = openPool(spacing, fee, step);
        for (int owner = 0; owner < 4; owner++) {
            yes("fund", pool.fund(owner, 0, 1000000000));
            yes("fund", pool.fund(owner, 1, 1000000000));
        }
        return pool;
    }

    /** The price and the step, which a swap moves together. */
    static void at(String what, Pool pool, int price, int step) {
        due(what + ": price", pool.price(), price);
        due(what + ": step", pool.step(), step);
    }

    /** What a lot is owed of the two tokens once it is settled. */
    static void settled(String what, Pool pool, int[] lot, long zero, long one) {
        due(what + ": settling", pool.burn(lot[0], lot[1], lot[2], 0), 0);
        owed(what, pool, lot, zero, one);
    }

    static void owed(String what, Pool pool, int[] lot, long zero, long one) {
        due(what + ": owed of token 0", pool.lot(lot[0], lot[1], lot[2], 1), zero);
        due(what + ": owed of token 1", pool.lot(lot[0], lot[1], lot[2], 2), one);
    }
}
