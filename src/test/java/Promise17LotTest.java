/** Promise 17: lot. */
public final class Promise17LotTest {
    private static final int[] LOT = {0, -1, 1};

    public static void main(String[] args) {
        ofTheLot();
        noneAtAll();
        none();
        gone();
        bad();
        firstCode();
        Check.end();
    }

    private static void ofTheLot() {
        Check.sentence("its liquidity for what 0; for what 1 and 2 what it is owed of token 0 and token 1");
        Pool pool = Check.richPool(1, 100, 0);
        pool.mint(0, -1, 1, 65536);
        due(pool, "minted", 65536, 0, 0);
        pool.flash(1, 1000, 200);
        due(pool, "growth is not yet owed", 65536, 0, 0);
        Check.unchanged("it only asks", pool, 65536, x -> x.lot(0, -1, 1, 0));
        pool.burn(0, -1, 1, 0);
        due(pool, "settled", 65536, 100, 20);
        pool.burn(0, -1, 1, 65535);
        due(pool, "burned all but 1", 1, 1698, 1618);
        pool.burn(0, -1, 1, 1);
        due(pool, "burned", 0, 1698, 1618);
    }

    private static void due(Pool pool, String when, long liquidity, long zero, long one) {
        Check.due(when + ": liquidity", pool.lot(0, -1, 1, 0), liquidity);
        Check.owed(when, pool, LOT, zero, one);
    }

    private static void noneAtAll() {
        Check.sentence("NO_LOT when there is none");
        Pool pool = new Pool(1, 3);
        Check.refused("not open", pool, RangedPool.NO_LOT, x -> x.lot(0, -1, 1, 0));
        Check.refused("not open, all 0", pool, RangedPool.NO_LOT, x -> x.lot(0, 0, 0, 0));
        pool.open(0);
        Check.refused("open", pool, RangedPool.NO_LOT, x -> x.lot(0, -1, 1, 0));
        Check.refused("open, all 0", pool, RangedPool.NO_LOT, x -> x.lot(0, 0, 0, 0));
    }

    private static void none() {
        Check.sentence("NO_LOT when there is none", "another owner or range");
        Pool pool = Check.richPool(1, 3, 0);
        pool.mint(0, -1, 1, 1000);
        Check.refused("another owner", pool, RangedPool.NO_LOT, x -> x.lot(1, -1, 1, 0));
        Check.refused("another lo", pool, RangedPool.NO_LOT, x -> x.lot(0, 0, 1, 0));
        Check.refused("another hi", pool, RangedPool.NO_LOT, x -> x.lot(0, -1, 2, 0));
        Check.refused("no range", pool, RangedPool.NO_LOT, x -> x.lot(0, 1, -1, 0));
        for (int owner : Check.NO_OWNERS) {
            Check.refused("owner " + owner, pool, RangedPool.NO_LOT, x -> x.lot(owner, -1, 1, 0));
        }
        for (int step : Check.NO_STEPS) {
            Check.refused("lo " + step, pool, RangedPool.NO_LOT, x -> x.lot(0, step, 1, 0));
            Check.refused("hi " + step, pool, RangedPool.NO_LOT, x -> x.lot(0, -1, step, 0));
        }
    }

    private static void gone() {
        Check.sentence("NO_LOT when there is none", "a lot that is gone");
        Pool pool = Check.richPool(1, 100, 0);
        pool.mint(0, -1, 1, 65536);
        pool.burn(0, -1, 1, 65536);
        Check.due("without liquidity, but owed", pool.lot(0, -1, 1, 0), 0);
        pool.collect(0, -1, 1);
        for (int what = 0; what < 3; what++) {
            Check.due("gone, what " + what, pool.lot(0, -1, 1, what), RangedPool.NO_LOT);
        }
    }

    private static void bad() {
        Check.sentence("BAD when what is none of these");
        Pool pool = Check.richPool(1, 3, 0);
        pool.mint(0, -1, 1, 1000);
        for (int what : new int[] {-1, 3, Integer.MIN_VALUE, Integer.MAX_VALUE}) {
            Check.refused("what " + what, pool, RangedPool.BAD, x -> x.lot(0, -1, 1, what));
        }
    }

    private static void firstCode() {
        Check.sentence("Where several codes would do, the first that its comment names is answered.", "lot");
        Pool pool = Check.richPool(1, 3, 0);
        Check.refused("not open", new Pool(1, 3), RangedPool.NO_LOT, x -> x.lot(0, -1, 1, 3));
        pool.mint(0, -1, 1, 1000);
        for (int what : new int[] {-1, 3, Integer.MIN_VALUE, Integer.MAX_VALUE}) {
            Check.refused("NO_LOT before BAD", pool, RangedPool.NO_LOT, x -> x.lot(1, -1, 1, what));
        }
    }
}
