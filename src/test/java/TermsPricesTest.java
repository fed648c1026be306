/** The terms: prices and steps, and what lies between two prices. */
public final class TermsPricesTest {
    public static void main(String[] args) {
        squareRoot();
        priceOfStepZero();
        pricesAbove();
        pricesBelow();
        lowestAndHighestPrice();
        lowestStep();
        highestStep();
        zeroRounded();
        oneRounded();
        samePrice();
        leastAndMost();
        favoursThePool();
        Check.end();
    }

    private static int priceAt(int step) {
        Pool pool = Check.openPool(1, 3, step);
        return pool.price();
    }

    /** So few tokens move the price by less than 1 in 100; rounding the price is worth 16 tokens at most. */
    private static void squareRoot() {
        Check.sentence("65536 standing for 1 (it is the square root of what one token 0 is worth in tokens 1)");
        for (int step = -20; step <= 20; step += 4) {
            Pool pool = Check.richPool(1, 0, step);
            pool.mint(0, -24, 24, 1000000);
            double worth = Math.pow(pool.price() / 65536.0, 2);
            near("5000 of token 0 at step " + step, pool.quote(true, 5000, -24), 5000 * worth);
            near("5000 of token 1 at step " + step, pool.quote(false, 5000, 24), 5000 / worth);
        }
    }

    private static void near(String what, long answer, double worth) {
        Check.due(what + ": paid", answer >> 32, 5000);
        long out = answer & 0xFFFFFFFFL;
        Check.yes(what + " bring " + out + ", about " + worth, out < worth && out > worth * 0.98);
    }

    private static void priceOfStepZero() {
        Check.sentence("P(0) is 65536");
        Check.due("P(0)", priceAt(0), 65536);
    }

    private static void pricesAbove() {
        Check.sentence("for t above 0, P(t) is P(t - 1) * 1025 / 1000 rounded down");
        for (int t = 1; t <= 24; t++) {
            Check.due("P(" + t + ")", priceAt(t), priceAt(t - 1) * 1025L / 1000);
        }
        Check.due("P(1), of 67174.4", priceAt(1), 67174);
        Check.due("P(2), of 68853.35", priceAt(2), 68853);
    }

    private static void pricesBelow() {
        Check.sentence("for t below 0, P(t) is P(t + 1) * 1000 / 1025 rounded down");
        for (int t = -1; t >= -24; t--) {
            Check.due("P(" + t + ")", priceAt(t), priceAt(t + 1) * 1000L / 1025);
        }
        Check.due("P(-1), of 63937.6", priceAt(-1), 63937);
        Check.due("P(-2), of 62377.6", priceAt(-2), 62377);
    }

    private static void lowestAndHighestPrice() {
        Check.sentence("STEP PRICES P(t) for t = -24 .. 24");
        Check.due("P(-24)", priceAt(-24), 36223);
        Check.due("P(24)", priceAt(24), 118522);
        for (int step : Check.NO_STEPS) {
            Check.no("P(" + step + ")", new Pool(1, 3).open(step));
        }
        for (int limit = -24; limit <= 24; limit++) {
            Pool pool = Check.openPool(1, 3, 0);
            if (limit != 0) {
                Check.due("swap to " + limit, pool.swap(0, limit < 0, 1, limit), 0);
            }
            Check.at("as a limit", pool, Check.stepPrice(limit), limit);
        }
    }

    private static Pool wide() {
        Pool pool = Check.richPool(1, 0, 0);
        pool.mint(0, -24, 24, 65536);
        return pool;
    }

    private static void lowestStep() {
        Check.sentence("The pool has a PRICE p and a STEP c, -25 .. 24.", "the lowest");
        Pool pool = wide();
        pool.swap(1, true, 1000000, -24);
        Check.at("below a marked step -24", pool, 36223, -25);
        Check.due("no lot is in range", pool.depth(), 0);
        pool.advance(3);
        Check.due("-25 for each tick", pool.observe(0), -75);
        Check.due("all of it is token 0", pool.mint(1, -24, -23, 1000), Check.pair(45, 0));
        Check.due("and of it too", pool.burn(0, -24, 24, 65536), Check.pair(82332, 0));
        pool = Check.openPool(1, 0, 0);
        pool.swap(1, true, 1000000, -24);
        Check.at("at a step -24 that is not marked", pool, 36223, -24);
    }

    private static void highestStep() {
        Check.sentence("The pool has a PRICE p and a STEP c, -25 .. 24.", "the highest");
        Pool pool = wide();
        pool.swap(1, false, 1000000, 24);
        Check.at("at a marked step 24", pool, 118522, 24);
        Check.due("no lot is in range", pool.depth(), 0);
        pool.advance(3);
        Check.due("24 for each tick", pool.observe(0), 72);
        Check.due("all of it is token 1", pool.mint(1, 23, 24, 1000), Check.pair(0, 45));
        Check.due("and of it too", pool.burn(0, -24, 24, 65536), Check.pair(0, 82299));
        pool = Check.openPool(1, 0, 0);
        pool.swap(1, false, 1000000, 24);
        Check.at("at a step 24 that is not marked", pool, 118522, 24);
    }

    /** From P(0) to P(1), 33587 liquidity holds 819 of token 0 exactly. */
    private static void zeroRounded() {
        Check.sentence("ZERO(a, b, w) is w * 65536 * (b - a) / (a * b)", "rounded up or down as is said");
        mintAndBurn(0, 1, 33586, Check.pair(819, 0), Check.pair(818, 0));
        mintAndBurn(0, 1, 33587, Check.pair(819, 0), Check.pair(819, 0));
        mintAndBurn(0, 1, 33588, Check.pair(820, 0), Check.pair(819, 0));
    }

    /** From P(-1) to P(0), 65536 liquidity holds 1599 of token 1 exactly. */
    private static void oneRounded() {
        Check.sentence("ONE(a, b, w) is w * (b - a) / 65536", "rounded up or down as is said");
        mintAndBurn(-1, 0, 65535, 1599, 1598);
        mintAndBurn(-1, 0, 65536, 1599, 1599);
        mintAndBurn(-1, 0, 65537, 1600, 1599);
    }

    private static void mintAndBurn(int lo, int hi, int liquidity, long minted, long burned) {
        Pool pool = Check.richPool(1, 3, 0);
        Check.due("mint of " + liquidity, pool.mint(0, lo, hi, liquidity), minted);
        Check.due("burn of " + liquidity, pool.burn(0, lo, hi, liquidity), burned);
    }

    private static void samePrice() {
        Check.sentence("For prices a <= b and a liquidity w", "a is b");
        Pool pool = Check.richPool(1, 0, 0);
        Check.due("ONE(p, p)", pool.mint(0, 0, 24, 1000000) & 0xFFFFFFFFL, 0);
        Check.due("ONE(p, p), down", pool.burn(0, 0, 24, 500000) & 0xFFFFFFFFL, 0);
        pool.swap(0, false, 1000, 24);
        pool.swap(0, true, 1000000, 0);
        Check.at("crossed downwards", pool, 65536, -1);
        Check.due("ZERO(p, p)", pool.mint(0, -24, 0, 500000) >> 32, 0);
        Check.due("ZERO(p, p), down", pool.burn(0, -24, 0, 500000) >> 32, 0);
    }

    private static void leastAndMost() {
        Check.sentence("For prices a <= b and a liquidity w", "w is 1, and 1000000");
        mintAndBurn(-1, 1, 1, Check.pair(1, 1), 0);
        mintAndBurn(-24, 24, 1, Check.pair(1, 1), 0);
        mintAndBurn(-24, 24, 1000000, Check.pair(447057, 447281), Check.pair(447056, 447280));
        Pool low = Check.richPool(1, 3, -24);
        Check.due("the most of token 0", low.mint(0, -24, 24, 1000000), Check.pair(1256294, 0));
        Check.due("and back", low.burn(0, -24, 24, 1000000), Check.pair(1256293, 0));
        Pool high = Check.richPool(1, 3, 24);
        Check.due("the most of token 1", high.mint(0, -24, 24, 1000000), Check.pair(0, 1255784));
        Check.due("and back", high.burn(0, -24, 24, 1000000), Check.pair(0, 1255783));
    }

    /** A quotient that is no whole number leaves 1 in the reserve. */
    private static void favoursThePool() {
        Check.sentence("Every rounding favours the pool.");
        for (int liquidity = 1; liquidity <= 200; liquidity++) {
            Pool pool = Check.richPool(1, 3, 0);
            pool.mint(0, -3, 2, liquidity);
            pool.burn(0, -3, 2, liquidity);
            pool.collect(0, -3, 2);
            Check.due("reserve 0 after " + liquidity, pool.reserve(0), 1);
            Check.due("reserve 1 after " + liquidity, pool.reserve(1), 1);
        }
    }
}
