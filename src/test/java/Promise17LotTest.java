/** Promise 17: lot. */
public final class Promise17LotTest {
    public static void main(String[] args) {
        RangedPool pool = new RangedPool(1, 3);
        Check.due("not open", pool.lot(0, 0, 0, 0), RangedPool.NO_LOT);
        Check.due("not open", pool.lot(0, -1, 1, 0), RangedPool.NO_LOT);
        pool = Check.richPool(1, 100, 0);
        Check.due("no lot, all zero", pool.lot(0, 0, 0, 0), RangedPool.NO_LOT);
        pool.mint(0, -1, 1, 65536);
        due(pool, "minted", 65536, 0, 0);
        pool.flash(1, 1000, 200);
        due(pool, "growth is not yet owed", 65536, 0, 0);
        pool.burn(0, -1, 1, 0);
        due(pool, "settled", 65536, 100, 20);
        pool.burn(0, -1, 1, 65536);
        due(pool, "burned", 0, 1698, 1619);
        codes(pool);
        pool.collect(0, -1, 1);
        Check.due("gone", pool.lot(0, -1, 1, 0), RangedPool.NO_LOT);
        Check.due("gone", pool.lot(0, -1, 1, 9), RangedPool.NO_LOT);
        Check.end();
    }

    private static void due(RangedPool pool, String when, long liquidity, long zero, long one) {
        Check.due(when + ": liquidity", pool.lot(0, -1, 1, 0), liquidity);
        Check.due(when + ": token 0", pool.lot(0, -1, 1, 1), zero);
        Check.due(when + ": token 1", pool.lot(0, -1, 1, 2), one);
    }

    private static void codes(RangedPool pool) {
        for (int what : new int[] {-1, 3, Integer.MIN_VALUE, Integer.MAX_VALUE}) {
            Check.due("what " + what, pool.lot(0, -1, 1, what), RangedPool.BAD);
            Check.due("NO_LOT before BAD", pool.lot(1, -1, 1, what), RangedPool.NO_LOT);
        }
        for (int owner : new int[] {1, -1, 4, Integer.MIN_VALUE, Integer.MAX_VALUE}) {
            Check.due("owner " + owner, pool.lot(owner, -1, 1, 0), RangedPool.NO_LOT);
        }
        for (int end : Check.WILD) {
            if (end != -1) {
                Check.due("lo " + end, pool.lot(0, end, 1, 0), RangedPool.NO_LOT);
            }
            if (end != 1) {
                Check.due("hi " + end, pool.lot(0, -1, end, 0), RangedPool.NO_LOT);
            }
        }
    }
}
