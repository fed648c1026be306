/** Promise 5: burn. */
public final class Promise05BurnTest {
    private static final int[] LOT = {0, -1, 1};

    public static void main(String[] args) {
        everyRange();
        byPlace();
        settlesFirst();
        onlySettles();
        allOfIt();
        reservesStay();
        closed();
        noLot();
        badLiquidity();
        firstCode();
        Check.end();
    }

    private static void everyRange() {
        Check.sentence("what that is worth (as for mint, but rounded down) is added to what it is owed");
        for (int lo = -24; lo < 24; lo++) {
            for (int hi = lo + 1; hi <= 24; hi++) {
                Pool pool = Check.richPool(1, 3, 0);
                pool.mint(1, lo, hi, 70000);
                int low = Check.stepPrice(lo);
                int high = Check.stepPrice(hi);
                long zero = hi <= 0 ? 0 : Check.zero(lo > 0 ? low : 65536, high, 33333, false);
                long one = lo > 0 ? 0 : Check.one(low, hi <= 0 ? high : 65536, 33333, false);
                String what = "burn " + lo + " .. " + hi;
                Check.due(what, pool.burn(1, lo, hi, 33333), Check.pair(zero, one));
                Check.due(what + ": its liquidity falls", pool.lot(1, lo, hi, 0), 70000 - 33333);
                Check.owed(what, pool, new int[] {1, lo, hi}, zero, one);
            }
        }
    }

    /** The price is 66536, between P(0) and P(1); then P(0) with step -1. */
    private static void byPlace() {
        Check.sentence("as for mint, but rounded down", "by place");
        Pool pool = Check.richPool(1, 0, 0);
        pool.mint(0, -24, 24, 65536);
        pool.swap(0, false, 1000, 24);
        pool.mint(1, -1, 0, 1000);
        pool.mint(1, 0, 1, 1000);
        pool.mint(1, 1, 2, 1000);
        Check.due("c is hi", pool.burn(1, -1, 0, 1000), Check.pair(0, 24));
        Check.due("c is lo", pool.burn(1, 0, 1, 1000), Check.pair(9, 15));
        Check.due("c is lo - 1", pool.burn(1, 1, 2, 1000), Check.pair(23, 0));
        pool.mint(1, 0, 1, 1000);
        pool.mint(1, -1, 0, 1000);
        pool.swap(0, true, 1000000, 0);
        Check.at("crossed downwards", pool, 65536, -1);
        Check.due("c is lo - 1, the price P(lo)", pool.burn(1, 0, 1, 1000), Check.pair(24, 0));
        Check.due("c is hi - 1, the price P(hi)", pool.burn(1, -1, 0, 1000), Check.pair(0, 24));
    }

    private static void settlesFirst() {
        Check.sentence("The lot is settled, its liquidity falls by so much");
        Pool pool = Check.richPool(1, 100, 0);
        pool.mint(0, -1, 1, 65536);
        pool.flash(1, 1000, 500);
        Check.sentence("Answers the amounts so added (without what settling adds)");
        Check.due("half of it", pool.burn(0, -1, 1, 32768), Check.pair(799, 799));
        Check.due("liquidity", pool.lot(0, -1, 1, 0), 32768);
        Check.sentence("The lot is settled, its liquidity falls by so much");
        Check.owed("settled for the liquidity that it had", pool, LOT, 799 + 100, 799 + 50);
        Check.due("the other half", pool.burn(0, -1, 1, 32768), Check.pair(799, 799));
        Check.owed("settled once", pool, LOT, 2 * 799 + 100, 2 * 799 + 50);
        Check.due("liquidity", pool.lot(0, -1, 1, 0), 0);
        Check.due("depth", pool.depth(), 0);
    }

    private static void onlySettles() {
        Check.sentence("Liquidity 0: it is only settled.");
        Pool pool = Check.richPool(1, 100, 0);
        pool.mint(0, -1, 1, 65536);
        pool.flash(1, 1000, 500);
        Check.due("burn 0", pool.burn(0, -1, 1, 0), 0);
        Check.owed("settled", pool, LOT, 100, 50);
        Check.due("liquidity", pool.lot(0, -1, 1, 0), 65536);
        Check.due("burn 0 again", pool.burn(0, -1, 1, 0), 0);
        Check.owed("nothing more", pool, LOT, 100, 50);
        pool.burn(0, -1, 1, 65536);
        Check.unchanged("of a lot without liquidity", pool, 0, x -> x.burn(0, -1, 1, 0));
        Check.due("it is still there", pool.lot(0, -1, 1, 0), 0);
    }

    private static void allOfIt() {
        Check.sentence("A lot is gone when it has no liquidity and is owed nothing.", "by burn");
        Pool pool = Check.richPool(1, 3, 0);
        pool.mint(0, -1, 1, 5);
        Check.due("worth nothing, all but 1", pool.burn(0, -1, 1, 4), 0);
        Check.due("still there", pool.lot(0, -1, 1, 0), 1);
        Check.due("worth nothing", pool.burn(0, -1, 1, 1), 0);
        Check.due("gone", pool.lot(0, -1, 1, 0), RangedPool.NO_LOT);
        Check.refused("gone", pool, RangedPool.NO_LOT, x -> x.burn(0, -1, 1, 0));
    }

    private static void reservesStay() {
        Check.sentence("is added to what it is owed");
        Pool pool = Check.richPool(1, 3, 0);
        pool.mint(0, -1, 1, 1000);
        pool.burn(0, -1, 1, 1000);
        Check.due("reserve 0", pool.reserve(0), 25);
        Check.due("reserve 1", pool.reserve(1), 25);
        Check.due("wallet 0", pool.wallet(0, 0), 1000000000 - 25);
        Check.due("wallet 1", pool.wallet(0, 1), 1000000000 - 25);
    }

    private static void closed() {
        Check.sentence("CLOSED: the pool is not open.", "burn");
        Pool pool = new Pool(1, 3);
        Check.refused("not open", pool, RangedPool.CLOSED, x -> x.burn(0, -1, 1, 0));
    }

    private static void noLot() {
        Check.sentence("`NO_LOT = -3`: There is no such lot.", "burn");
        Pool pool = Check.richPool(1, 3, 0);
        Check.refused("no lots at all", pool, RangedPool.NO_LOT, x -> x.burn(0, -1, 1, 0));
        Check.refused("no lots at all, all 0", pool, RangedPool.NO_LOT, x -> x.burn(0, 0, 0, 0));
        pool.mint(0, -1, 1, 1000);
        pool.advance(1);
        Check.refused("another owner", pool, RangedPool.NO_LOT, x -> x.burn(1, -1, 1, 0));
        Check.refused("another lo", pool, RangedPool.NO_LOT, x -> x.burn(0, 0, 1, 0));
        Check.refused("another hi", pool, RangedPool.NO_LOT, x -> x.burn(0, -1, 2, 0));
        Check.refused("no range", pool, RangedPool.NO_LOT, x -> x.burn(0, 1, -1, 0));
        for (int owner : Check.NO_OWNERS) {
            Check.refused("no owner", pool, RangedPool.NO_LOT, x -> x.burn(owner, -1, 1, 0));
        }
        for (int step : Check.NO_STEPS) {
            Check.refused("no step, lo", pool, RangedPool.NO_LOT, x -> x.burn(0, step, 1, 0));
            Check.refused("no step, hi", pool, RangedPool.NO_LOT, x -> x.burn(0, -1, step, 0));
        }
    }

    private static void badLiquidity() {
        Check.sentence("BAD when liquidity is not 0 .. what the lot has");
        Pool pool = Check.richPool(1, 3, 0);
        pool.mint(0, -1, 1, 1000);
        pool.mint(1, -1, 1, 5000);
        pool.flash(1, 20, 20);
        pool.advance(1);
        for (int liquidity : new int[] {-1, 1001, Integer.MIN_VALUE, Integer.MAX_VALUE}) {
            Check.refused("liquidity " + liquidity, pool, RangedPool.BAD, x -> x.burn(0, -1, 1, liquidity));
        }
        Check.due("all that it has", pool.burn(0, -1, 1, 1000), Check.pair(24, 24));
        Check.refused("it has no more", pool, RangedPool.BAD, x -> x.burn(0, -1, 1, 1));
        Check.due("0", pool.burn(0, -1, 1, 0), 0);
    }

    private static void firstCode() {
        Check.sentence("Where several codes would do, the first that its comment names is answered.", "burn");
        Pool closed = new Pool(1, 3);
        Check.refused("CLOSED before NO_LOT and BAD", closed, RangedPool.CLOSED, x -> x.burn(9, 9, 9, -1));
        Pool pool = Check.richPool(1, 3, 0);
        pool.mint(0, -1, 1, 1000);
        Check.refused("NO_LOT before BAD", pool, RangedPool.NO_LOT, x -> x.burn(1, -1, 1, -1));
        Check.refused("NO_LOT before BAD", pool, RangedPool.NO_LOT, x -> x.burn(0, -1, 2, 1000001));
    }
}
