/** Promise 4: mint. */
public final class Promise04MintTest {
    private static final int[] LOT = {0, -4, 4};

    public static void main(String[] args) {
        everyRange();
        belowLo();
        hiOrMore();
        between();
        settlesAndGrows();
        ofOneOwner();
        answers();
        closed();
        badOwner();
        badRange();
        badLiquidity();
        eleventhLot();
        tooMuchLiquidity();
        poor();
        firstCode();
        Check.end();
    }

    private static void everyRange() {
        Check.sentence("Paid are, by ZERO and ONE rounded up");
        for (int lo = -24; lo < 24; lo++) {
            for (int hi = lo + 1; hi <= 24; hi++) {
                Pool pool = Check.richPool(1, 3, 0);
                int low = Check.stepPrice(lo);
                int high = Check.stepPrice(hi);
                long zero = hi <= 0 ? 0 : Check.zero(lo > 0 ? low : 65536, high, 12345, true);
                long one = lo > 0 ? 0 : Check.one(low, hi <= 0 ? high : 65536, 12345, true);
                paid("mint " + lo + " .. " + hi, pool, new int[] {1, lo, hi}, 12345, zero, one);
            }
        }
    }

    private static void paid(String what, Pool pool, int[] lot, int liquidity, long zero, long one) {
        long[] before = {pool.wallet(lot[0], 0), pool.wallet(lot[0], 1), pool.reserve(0), pool.reserve(1)};
        Check.due(what, pool.mint(lot[0], lot[1], lot[2], liquidity), Check.pair(zero, one));
        Check.due(what + ": wallet 0", pool.wallet(lot[0], 0), before[0] - zero);
        Check.due(what + ": wallet 1", pool.wallet(lot[0], 1), before[1] - one);
        Check.due(what + ": reserve 0", pool.reserve(0), before[2] + zero);
        Check.due(what + ": reserve 1", pool.reserve(1), before[3] + one);
    }

    /** The price is 66536, between P(0) and P(1). */
    private static Pool insideStep0() {
        Pool pool = Check.richPool(1, 0, 0);
        pool.mint(0, -24, 24, 65536);
        pool.swap(0, false, 1000, 24);
        Check.at("inside step 0", pool, 66536, 0);
        return pool;
    }

    /** The price is P(0), the step is -1: the marked step 0 was crossed downwards. */
    private static Pool justBelowStep0() {
        Pool pool = Check.richPool(1, 0, 2);
        pool.mint(0, 0, 4, 1000);
        pool.swap(0, true, 1000000, 0);
        Check.at("just below step 0", pool, 65536, -1);
        return pool;
    }

    private static void belowLo() {
        Check.sentence("when c is below lo, ZERO(P(lo), P(hi))");
        paid("c is lo - 1, the price inside it", insideStep0(), new int[] {1, 1, 2}, 1000,
            Check.zero(67174, 68853, 1000, true), 0);
        paid("c is lo - 1, the price P(lo)", justBelowStep0(), new int[] {1, 0, 3}, 1000,
            Check.zero(65536, 70574, 1000, true), 0);
        paid("far below", Check.richPool(1, 0, -24), new int[] {1, 23, 24}, 1000000,
            Check.zero(115632, 118522, 1000000, true), 0);
    }

    private static void hiOrMore() {
        Check.sentence("when c is hi or more, ONE(P(lo), P(hi))");
        paid("c is hi, the price P(hi)", Check.richPool(1, 0, 0), new int[] {1, -1, 0}, 1000,
            0, Check.one(63937, 65536, 1000, true));
        paid("c is hi, the price inside it", insideStep0(), new int[] {1, -1, 0}, 1000,
            0, Check.one(63937, 65536, 1000, true));
        paid("far above", Check.richPool(1, 0, 24), new int[] {1, -24, -23}, 1000000,
            0, Check.one(36223, 37129, 1000000, true));
        paid("the highest step of all", Check.richPool(1, 0, 24), new int[] {1, 23, 24}, 1000000,
            0, Check.one(115632, 118522, 1000000, true));
    }

    private static void between() {
        Check.sentence("otherwise ZERO(p, P(hi)) and ONE(P(lo), p)");
        paid("c is lo, the price P(lo)", Check.richPool(1, 0, 0), new int[] {1, 0, 1}, 1000,
            Check.zero(65536, 67174, 1000, true), 0);
        paid("c is lo and hi - 1, the price inside it", insideStep0(), new int[] {1, 0, 1}, 1000,
            Check.zero(66536, 67174, 1000, true), Check.one(65536, 66536, 1000, true));
        paid("c is hi - 1, the price P(hi)", justBelowStep0(), new int[] {1, -3, 0}, 1000,
            0, Check.one(60855, 65536, 1000, true));
        paid("c is between", insideStep0(), new int[] {1, -24, 24}, 1000,
            Check.zero(66536, 118522, 1000, true), Check.one(36223, 66536, 1000, true));
    }

    private static void settlesAndGrows() {
        Check.sentence("The lot (a new one, if it is not there) is settled, and its liquidity grows.");
        Pool pool = Check.richPool(1, 100, 0);
        Check.due("none", pool.lot(0, -4, 4, 0), RangedPool.NO_LOT);
        pool.mint(0, -4, 4, 3000);
        Check.due("a new one", pool.lot(0, -4, 4, 0), 3000);
        Check.owed("a new one", pool, LOT, 0, 0);
        pool.flash(1, 160, 240);
        Check.owed("not settled yet", pool, LOT, 0, 0);
        pool.mint(0, -4, 4, 1);
        Check.due("it grows", pool.lot(0, -4, 4, 0), 3001);
        Check.owed("settled for the liquidity that it had", pool, LOT, 15, 23);
        Check.due("depth", pool.depth(), 3001);
        pool.mint(0, -4, 4, 996999);
        Check.due("it grows to the most", pool.lot(0, -4, 4, 0), 1000000);
        Check.owed("settled only once", pool, LOT, 15, 23);
    }

    private static void ofOneOwner() {
        Check.sentence("An owner puts in liquidity for a range.");
        Pool pool = Check.richPool(1, 3, 0);
        pool.mint(0, -4, 4, 10);
        pool.mint(3, -4, 4, 20);
        pool.mint(0, -4, 5, 30);
        pool.mint(0, -5, 4, 40);
        Check.due("the first owner", pool.lot(0, -4, 4, 0), 10);
        Check.due("the last owner", pool.lot(3, -4, 4, 0), 20);
        Check.due("another hi", pool.lot(0, -4, 5, 0), 30);
        Check.due("another lo", pool.lot(0, -5, 4, 0), 40);
        Check.due("no other owner", pool.lot(1, -4, 4, 0), RangedPool.NO_LOT);
    }

    private static void answers() {
        Check.sentence("Answers the amount of token 0 times 4294967296 plus that of token 1.");
        Pool pool = Check.richPool(1, 3, 0);
        Check.due("1 of each", pool.mint(0, -1, 1, 1), 4294967297L);
        Check.due("token 1 alone", pool.mint(0, -1, 0, 1000), 25);
        Check.due("token 0 alone", pool.mint(0, 1, 2, 1000), 24 * 4294967296L);
        Check.due("the most of token 0", Check.richPool(1, 3, -24).mint(0, -24, 24, 1000000), 1256294 * 4294967296L);
        Check.due("the most of token 1", Check.richPool(1, 3, 24).mint(0, -24, 24, 1000000), 1255784);
    }

    private static void closed() {
        Check.sentence("CLOSED: the pool is not open.", "mint");
        Pool pool = new Pool(1, 3);
        pool.fund(0, 0, 1000000);
        pool.fund(0, 1, 1000000);
        Check.refused("not open", pool, RangedPool.CLOSED, x -> x.mint(0, -4, 4, 1000));
        pool.open(0);
        Check.yes("open", pool.mint(0, -4, 4, 1000) > 0);
    }

    private static void badOwner() {
        Check.sentence("BAD when there is no such owner or range", "owner");
        Pool pool = Check.richPool(1, 3, 0);
        for (int owner : Check.NO_OWNERS) {
            Check.refused("owner " + owner, pool, RangedPool.BAD, x -> x.mint(owner, -2, 2, 1));
        }
        Check.yes("the first owner", pool.mint(0, -2, 2, 1) > 0);
        Check.yes("the last owner", pool.mint(3, -2, 2, 1) > 0);
    }

    private static void badRange() {
        Check.sentence("BAD when there is no such owner or range", "range");
        Pool pool = Check.richPool(2, 3, 0);
        int[][] ranges = {{0, 0}, {2, 0}, {24, -24}, {24, 24}, {-26, 0}, {0, 26}, {-25, 24}, {-24, 25}, {24, 26}, {-26, -24},
            {1, 2}, {0, 1}, {-1, 2}, {-2, -1}, {-1, 1}, {Integer.MIN_VALUE, 0}, {0, Integer.MAX_VALUE},
            {Integer.MIN_VALUE, Integer.MAX_VALUE}, {Integer.MAX_VALUE, Integer.MIN_VALUE}};
        for (int[] range : ranges) {
            String what = range[0] + " .. " + range[1];
            Check.refused(what, pool, RangedPool.BAD, x -> x.mint(0, range[0], range[1], 1));
        }
        Check.yes("the narrowest", pool.mint(0, 0, 2, 1) > 0);
        Check.yes("the widest", pool.mint(0, -24, 24, 1) > 0);
    }

    private static void badLiquidity() {
        Check.sentence("or liquidity is not 1 .. 1000000");
        Pool pool = Check.richPool(1, 3, 0);
        for (int liquidity : new int[] {0, -1, 1000001, Integer.MIN_VALUE, Integer.MAX_VALUE}) {
            Check.refused("liquidity " + liquidity, pool, RangedPool.BAD, x -> x.mint(0, -2, 2, liquidity));
        }
        Check.yes("the least", pool.again().mint(0, -2, 2, 1) > 0);
        Check.yes("the most", pool.again().mint(0, -2, 2, 1000000) > 0);
    }

    private static Pool tenLots() {
        Pool pool = Check.richPool(1, 3, 0);
        for (int i = 1; i <= 10; i++) {
            Check.yes("lot " + i, pool.mint(i % 4, -i, i, 100) > 0);
        }
        return pool;
    }

    private static void eleventhLot() {
        Check.sentence("FULL when it would be the 11th lot");
        Pool pool = tenLots();
        Check.refused("another range", pool, RangedPool.FULL, x -> x.mint(0, -11, 11, 1));
        Check.refused("another owner", pool, RangedPool.FULL, x -> x.mint(0, -1, 1, 1));
        Check.yes("one that is there", pool.mint(1, -1, 1, 1) > 0);
        Check.yes("the last that is there", pool.mint(2, -10, 10, 1) > 0);
        pool.burn(2, -2, 2, 100);
        Check.refused("one has no liquidity, but is owed", pool, RangedPool.FULL, x -> x.mint(0, -11, 11, 1));
        Check.yes("that one is there too", pool.again().mint(2, -2, 2, 1) > 0);
        pool.collect(2, -2, 2);
        Check.yes("in place of one that is gone", pool.mint(0, -11, 11, 1) > 0);
        Check.due("its liquidity", pool.lot(0, -11, 11, 0), 1);
        Check.refused("10 again", pool, RangedPool.FULL, x -> x.mint(2, -2, 2, 1));
    }

    private static void tooMuchLiquidity() {
        Check.sentence("or the liquidity of all lots more than 1000000");
        Pool pool = Check.richPool(1, 3, 0);
        pool.mint(0, -1, 1, 600000);
        Check.refused("another range", pool, RangedPool.FULL, x -> x.mint(1, 5, 6, 400001));
        Check.refused("the same lot", pool, RangedPool.FULL, x -> x.mint(0, -1, 1, 400001));
        Check.refused("by far", pool, RangedPool.FULL, x -> x.mint(0, -1, 1, 1000000));
        Check.yes("1000000 in two lots", pool.mint(1, 5, 6, 400000) > 0);
        Check.refused("1 more", pool, RangedPool.FULL, x -> x.mint(1, 5, 6, 1));
        pool.burn(0, -1, 1, 5);
        Check.refused("more than was burned", pool, RangedPool.FULL, x -> x.mint(1, 5, 6, 6));
        Check.yes("what was burned", pool.mint(1, 5, 6, 5) > 0);
    }

    private static void poor() {
        Check.sentence("POOR.", "mint");
        Pool pool = Check.openPool(1, 3, 0);
        pool.fund(0, 0, 25);
        pool.fund(0, 1, 24);
        Check.refused("token 1 is 1 short", pool, RangedPool.POOR, x -> x.mint(0, -1, 1, 1000));
        pool.fund(0, 1, 1);
        pool.fund(1, 0, 24);
        pool.fund(1, 1, 25);
        Check.refused("token 0 is 1 short", pool, RangedPool.POOR, x -> x.mint(1, -1, 1, 1000));
        Check.refused("other owners' wallets don't count", pool, RangedPool.POOR, x -> x.mint(2, -1, 1, 1));
        Check.due("just enough", pool.mint(0, -1, 1, 1000), Check.pair(25, 25));
        Check.due("nothing is left", pool.wallet(0, 0) + pool.wallet(0, 1), 0);
        pool.fund(2, 0, 24);
        Check.due("no token 1 is needed", pool.mint(2, 1, 2, 1000), Check.pair(24, 0));
        pool.fund(3, 1, 25);
        Check.due("no token 0 is needed", pool.mint(3, -1, 0, 1000), Check.pair(0, 25));
    }

    private static void firstCode() {
        Check.sentence("Where several codes would do, the first that its comment names is answered.", "mint");
        Pool closed = new Pool(1, 3);
        Check.refused("CLOSED before BAD", closed, RangedPool.CLOSED, x -> x.mint(9, 9, 9, 0));
        Check.refused("CLOSED before POOR", closed, RangedPool.CLOSED, x -> x.mint(0, -1, 1, 1));
        Pool pool = Check.openPool(1, 3, 0);
        pool.fund(0, 0, 1000000000);
        pool.mint(0, 1, 24, 1000000);
        Check.refused("BAD before FULL", pool, RangedPool.BAD, x -> x.mint(0, 1, 24, 1000001));
        Check.refused("BAD before FULL, range", pool, RangedPool.BAD, x -> x.mint(0, 1, 25, 1));
        Check.refused("BAD before POOR, owner", pool, RangedPool.BAD, x -> x.mint(4, -1, 1, 1));
        Check.refused("BAD before POOR, range", pool, RangedPool.BAD, x -> x.mint(1, 1, 1, 1));
        Check.refused("BAD before POOR, liquidity", pool, RangedPool.BAD, x -> x.mint(1, -1, 1, 0));
        Check.refused("FULL of liquidity before POOR", pool, RangedPool.FULL, x -> x.mint(1, -1, 1, 1));
        firstCodeOfTenLots();
    }

    private static void firstCodeOfTenLots() {
        Pool pool = Check.openPool(1, 3, 0);
        pool.fund(0, 0, 10);
        for (int i = 1; i <= 10; i++) {
            Check.due("lot " + i, pool.mint(0, i, i + 1, 1), Check.pair(1, 0));
        }
        Check.refused("FULL of lots before POOR", pool, RangedPool.FULL, x -> x.mint(0, 11, 12, 1));
        Check.refused("POOR in a lot that is there", pool, RangedPool.POOR, x -> x.mint(0, 10, 11, 1));
        Check.refused("BAD before FULL of lots", pool, RangedPool.BAD, x -> x.mint(0, 11, 12, 0));
    }
}
