/** The terms: growth by fees, and settling. */
public final class TermsFeesTest {
    private static final int[] LOT = {0, -1, 1};

    public static void main(String[] args) {
        growthRoundedDown();
        growthAddsUp();
        everyLotInRange();
        onlyWhileInRange();
        thisTokenOnly();
        feeOfNothing();
        noDepthInASwap();
        noDepthInALotWithoutLiquidity();
        noDepthBetweenTwoLots();
        noDepthInAFlash();
        settlingRoundsDown();
        settlingClearsGrowth();
        settlingEachToken();
        settlingWithoutLiquidity();
        mostGrowth();
        Check.end();
    }

    /** Flash of 10 takes a fee of 1 from each token, of 0 none. */
    private static Pool pool(int... liquidity) {
        Pool pool = Check.richPool(1, 100, 0);
        for (int owner = 0; owner < liquidity.length; owner++) {
            pool.mint(owner, -1, 1, liquidity[owner]);
        }
        pool.mint(3, 5, 9, 900000);
        pool.mint(3, -9, -5, 90000);
        return pool;
    }

    private static void flash(Pool pool, int zero, int one) {
        Check.due("flash", pool.flash(2, 10 * zero, 10 * one), Check.pair(zero, one));
    }

    private static void growthRoundedDown() {
        Check.sentence("rises by f * 4294967296 / DEPTH rounded down.");
        for (int depth : new int[] {1, 2, 4, 1024, 4096}) {
            Pool pool = pool(depth);
            flash(pool, 1, 2);
            Check.settled("no rest with depth " + depth, pool, LOT, 1, 2);
        }
        for (int depth : new int[] {3, 5, 1000, 4095}) {
            Pool pool = pool(depth);
            flash(pool, 1, 2);
            Check.settled("a rest with depth " + depth, pool, LOT, 0, 1);
        }
    }

    private static void growthAddsUp() {
        Check.sentence("the GROWTH that it has not yet settled");
        Pool pool = pool(3);
        for (int i = 0; i < 10; i++) {
            flash(pool, 1, 2);
        }
        Check.settled("10 times not quite 1, and not quite 2", pool, LOT, 9, 19);
    }

    private static void everyLotInRange() {
        Check.sentence("the growth of this token in every lot that is in range rises");
        Pool pool = pool(1024, 2048, 1024);
        flash(pool, 40, 20);
        Check.settled("a quarter", pool, new int[] {0, -1, 1}, 10, 5);
        Check.settled("a half", pool, new int[] {1, -1, 1}, 20, 10);
        Check.settled("a quarter", pool, new int[] {2, -1, 1}, 10, 5);
        Check.settled("above", pool, new int[] {3, 5, 9}, 0, 0);
        Check.settled("below", pool, new int[] {3, -9, -5}, 0, 0);
    }

    private static void onlyWhileInRange() {
        Check.sentence("earns fees only while the price is in its range");
        Pool pool = Check.richPool(1, 100, 0);
        pool.mint(0, -1, 1, 4096);
        pool.mint(1, 1, 3, 4096);
        flash(pool, 7, 0);
        Check.due("up to step 1", pool.swap(2, false, 1000000, 1), Check.pair(103 + 12, 99));
        flash(pool, 5, 0);
        Check.settled("the first", pool, LOT, 7, 12);
        Check.settled("the second", pool, new int[] {1, 1, 3}, 5, 0);
        Check.due("back over step 1", pool.swap(2, true, -1, -24), Check.pair(1 + 1, 1));
        flash(pool, 3, 0);
        Check.settled("the first", pool, LOT, 7 + 1 + 3, 12);
        Check.settled("the second", pool, new int[] {1, 1, 3}, 5, 0);
    }

    private static void thisTokenOnly() {
        Check.sentence("the growth of this token");
        Pool pool = pool(1024);
        flash(pool, 3, 0);
        Check.settled("token 0", pool, LOT, 3, 0);
        flash(pool, 0, 4);
        Check.settled("token 1", pool, LOT, 3, 4);
        Pool down = pool(1024);
        down.swap(1, true, 1, -24);
        Check.settled("a swap down, all fee", down, LOT, 1, 0);
        down.swap(1, false, 1, 24);
        Check.settled("a swap up, all fee", down, LOT, 1, 1);
    }

    private static void feeOfNothing() {
        Check.sentence("When a FEE f of a token is taken while DEPTH is not 0", "f is 0");
        Pool pool = pool(1024);
        Check.unchanged("flash of nothing", pool, 0, x -> x.flash(2, 0, 0));
        Check.settled("no growth", pool, LOT, 0, 0);
    }

    /** Without depth nothing must be paid in, so the fee is 0: the reserve rises by it, and no lot gets it. */
    private static void noDepthInASwap() {
        Check.sentence("(When DEPTH is 0, nobody gets it; it is in the reserve all the same.)", "in a swap");
        Pool pool = Check.richPool(1, 100, 0);
        pool.mint(0, 2, 4, 65536);
        pool.mint(1, -4, -2, 65536);
        long zero = pool.reserve(0);
        long one = pool.reserve(1);
        Check.due("nothing is needed", pool.swap(2, false, 1000000, 2), 0);
        Check.due("nothing is needed", pool.swap(2, true, 1000000, -1), 0);
        Check.due("reserve 0", pool.reserve(0), zero);
        Check.due("reserve 1", pool.reserve(1), one);
        Check.settled("above", pool, new int[] {0, 2, 4}, 0, 0);
        Check.settled("below", pool, new int[] {1, -4, -2}, 0, 0);
        long out = Check.one(60855, 62377, 65536, false);
        long in = Check.zero(60855, 62377, 65536, true);
        long fee = (in + 8) / 9;
        Check.due("over the gap into the lower", pool.swap(2, true, 1000000, -3), Check.pair(in + fee, out));
        Check.settled("the lower gets all", pool, new int[] {1, -4, -2}, fee, 0);
        Check.settled("the upper nothing", pool, new int[] {0, 2, 4}, 0, 0);
        Check.due("reserve 0", pool.reserve(0), zero + in + fee);
    }

    /** The lot is in range and still owed something, but DEPTH is 0. */
    private static void noDepthInALotWithoutLiquidity() {
        Check.sentence("(When DEPTH is 0, nobody gets it; it is in the reserve all the same.)", "no liquidity");
        Pool pool = Check.richPool(1, 100, 0);
        pool.mint(0, -1, 1, 65536);
        pool.burn(0, -1, 1, 65536);
        Check.due("depth", pool.depth(), 0);
        Check.due("up", pool.swap(1, false, 1000000, 1), 0);
        Check.due("down", pool.swap(1, true, -1000000, -1), 0);
        Check.due("up again", pool.swap(1, false, -1, 0), 0);
        Check.due("reserve 0", pool.reserve(0), 1599);
        Check.due("reserve 1", pool.reserve(1), 1599);
        Check.settled("what it was owed before", pool, LOT, 1598, 1599);
        pool.mint(0, -1, 1, 65536);
        Check.settled("also when it has liquidity again", pool, LOT, 1598, 1599);
    }

    /** The way is over a lot, over a gap, and into the next lot. */
    private static void noDepthBetweenTwoLots() {
        Check.sentence("(When DEPTH is 0, nobody gets it; it is in the reserve all the same.)", "between two lots");
        Pool pool = Check.richPool(1, 100, 0);
        pool.mint(0, -1, 1, 65536);
        pool.mint(1, 3, 4, 65536);
        long zero = pool.reserve(0);
        long one = pool.reserve(1);
        long first = Check.one(65536, 67174, 65536, true);
        long second = Check.one(70574, 72338, 65536, true);
        long firstFee = (first + 8) / 9;
        long secondFee = (second + 8) / 9;
        long out = Check.zero(65536, 67174, 65536, false) + Check.zero(70574, 72338, 65536, false);
        long paid = first + firstFee + second + secondFee;
        Check.due("to step 4", pool.swap(2, false, 1000000, 4), Check.pair(paid, out));
        Check.due("reserve 0", pool.reserve(0), zero - out);
        Check.due("reserve 1", pool.reserve(1), one + paid);
        Check.settled("the first", pool, LOT, 0, firstFee);
        Check.settled("the second", pool, new int[] {1, 3, 4}, 0, secondFee);
    }

    private static void noDepthInAFlash() {
        Check.sentence("(When DEPTH is 0, nobody gets it; it is in the reserve all the same.)", "in a flash");
        Pool pool = Check.richPool(1, 100, 0);
        pool.mint(0, 2, 4, 65536);
        Check.refused("no fee is taken", pool, RangedPool.BAD, x -> x.flash(2, 100, 0));
    }

    private static void settlingRoundsDown() {
        Check.sentence("growth * liquidity / 4294967296, rounded down, is added to what it is owed");
        Pool pool = pool(1, 1);
        flash(pool, 1, 3);
        Check.settled("a half, and one and a half", pool, LOT, 0, 1);
        Check.settled("the other", pool, new int[] {1, -1, 1}, 0, 1);
        flash(pool, 5, 4);
        Check.settled("two and a half, and two", pool, LOT, 2, 3);
    }

    private static void settlingClearsGrowth() {
        Check.sentence("and its growth is 0 then");
        Pool often = pool(1, 1);
        Pool once = pool(1, 1);
        for (int i = 1; i <= 6; i++) {
            flash(often, 1, 3);
            flash(once, 1, 3);
            Check.settled("the halves are lost", often, LOT, 0, i);
        }
        Check.settled("the halves are kept", once, LOT, 3, 9);
        Check.settled("nothing more", once, LOT, 3, 9);
    }

    private static void settlingEachToken() {
        Check.sentence("SETTLING a lot: for each token");
        Pool pool = pool(1024);
        flash(pool, 5, 9);
        pool.mint(0, -1, 1, 1024);
        Check.owed("by mint", pool, LOT, 5, 9);
        flash(pool, 2, 4);
        pool.burn(0, -1, 1, 1);
        Check.owed("by burn", pool, LOT, 7, 13);
        flash(pool, 2, 4);
        pool.collect(0, -1, 1);
        Check.owed("not by collect", pool, LOT, 0, 0);
    }

    /** The growth of a lot without liquidity is worth nothing, also to what is put in later. */
    private static void settlingWithoutLiquidity() {
        Check.sentence("growth * liquidity / 4294967296, rounded down", "no liquidity");
        Pool pool = pool(1024, 1024);
        pool.burn(0, -1, 1, 1024);
        long owed = pool.lot(0, -1, 1, 1);
        flash(pool, 8, 8);
        pool.mint(0, -1, 1, 1024);
        Check.due("nothing by mint", pool.lot(0, -1, 1, 1), owed);
        flash(pool, 8, 8);
        Check.settled("half of the second", pool, LOT, owed + 4, owed + 4);
        Check.settled("all of the first", pool, new int[] {1, -1, 1}, 12, 12);
    }

    /** As much as can be: 1 in range, and the most borrowed again and again. */
    private static void mostGrowth() {
        Check.sentence("rises by f * 4294967296 / DEPTH rounded down.", "as high as it can be");
        Pool pool = Check.richPool(1, 100, -24);
        pool.mint(0, -24, -23, 1);
        pool.mint(1, -23, 24, 999999);
        for (int i = 0; i < 490; i++) {
            pool.flash(2, 1000000, 0);
        }
        Check.settled("490 times 100000", pool, new int[] {0, -24, -23}, 49000000, 0);
    }
}
