/** Promise 6: collect. */
public final class Promise06CollectTest {
    public static void main(String[] args) {
        pays();
        doesNotSettle();
        aNewLotStartsFresh();
        codes();
        Check.end();
    }

    private static void pays() {
        RangedPool pool = Check.richPool(1, 3, 0);
        pool.mint(2, -1, 1, 65536);
        pool.burn(2, -1, 1, 65536);
        long zero = pool.wallet(2, 0);
        long one = pool.wallet(2, 1);
        Check.due("collect", pool.collect(2, -1, 1), Check.pair(1598, 1599));
        Check.due("wallet 0", pool.wallet(2, 0), zero + 1598);
        Check.due("wallet 1", pool.wallet(2, 1), one + 1599);
        Check.due("rounded up when it came, down when it went", pool.reserve(0), 1);
        Check.due("reserve 1", pool.reserve(1), 0);
        Check.due("gone", pool.lot(2, -1, 1, 0), RangedPool.NO_LOT);
        Check.due("gone", pool.collect(2, -1, 1), RangedPool.NO_LOT);
    }

    private static void doesNotSettle() {
        RangedPool pool = Check.richPool(1, 100, 0);
        pool.mint(0, -1, 1, 65536);
        pool.flash(1, 1000, 500);
        Check.due("not settled", pool.collect(0, -1, 1), 0);
        Check.due("with liquidity it stays", pool.lot(0, -1, 1, 0), 65536);
        pool.burn(0, -1, 1, 0);
        Check.due("settled", pool.collect(0, -1, 1), Check.pair(100, 50));
        Check.due("owed no more", pool.lot(0, -1, 1, 1) + pool.lot(0, -1, 1, 2), 0);
        Check.due("nothing more", pool.collect(0, -1, 1), 0);
    }

    /** Growth of a lot that is gone is gone too, also when it rose while the lot was only owed something. */
    private static void aNewLotStartsFresh() {
        RangedPool pool = Check.richPool(1, 100, 0);
        pool.mint(0, -2, 2, 1024);
        pool.mint(1, -1, 1, 1000);
        pool.burn(1, -1, 1, 1000);
        pool.flash(0, 40, 40);
        pool.collect(1, -1, 1);
        pool.flash(0, 40, 40);
        pool.mint(1, -1, 1, 1000);
        pool.burn(1, -1, 1, 0);
        Check.due("owed 0", pool.lot(1, -1, 1, 1), 0);
        Check.due("owed 1", pool.lot(1, -1, 1, 2), 0);
        pool.burn(0, -2, 2, 0);
        Check.due("all went to the other", pool.lot(0, -2, 2, 1), 8);
    }

    private static void codes() {
        RangedPool closed = new RangedPool(1, 3);
        Check.due("CLOSED", closed.collect(0, -1, 1), RangedPool.CLOSED);
        RangedPool pool = Check.richPool(1, 3, 0);
        pool.mint(0, -1, 1, 1000);
        pool.burn(0, -1, 1, 500);
        String before = Check.state(pool, new int[] {-1, 1});
        Check.due("another owner", pool.collect(1, -1, 1), RangedPool.NO_LOT);
        Check.due("no owner", pool.collect(4, -1, 1), RangedPool.NO_LOT);
        Check.due("another lo", pool.collect(0, -2, 1), RangedPool.NO_LOT);
        Check.due("another hi", pool.collect(0, -1, 2), RangedPool.NO_LOT);
        Check.due("no range", pool.collect(0, 1, -1), RangedPool.NO_LOT);
        Check.same("codes", Check.state(pool, new int[] {-1, 1}), before);
    }
}
