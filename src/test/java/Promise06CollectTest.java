/** Promise 6: collect. */
public final class Promise06CollectTest {
    private static final int[] LOT = {2, -1, 1};

    public static void main(String[] args) {
        pays();
        owedNothing();
        notSettledBefore();
        goesWhenEmpty();
        aNewLotStartsFresh();
        answers();
        closed();
        noLot();
        Check.end();
    }

    private static void pays() {
        Check.sentence("What the lot is owed goes from the reserves to its owner's wallet.");
        Pool pool = Check.richPool(1, 3, 0);
        pool.mint(2, -1, 1, 65536);
        pool.mint(3, -1, 1, 65536);
        pool.burn(2, -1, 1, 65000);
        pool.burn(3, -1, 1, 65536);
        Check.due("collect", pool.collect(2, -1, 1), Check.pair(1584, 1585));
        Check.due("wallet 0", pool.wallet(2, 0), 1000000000 - 1599 + 1584);
        Check.due("wallet 1", pool.wallet(2, 1), 1000000000 - 1599 + 1585);
        Check.due("reserve 0", pool.reserve(0), 2 * 1599 - 1584);
        Check.due("reserve 1", pool.reserve(1), 2 * 1599 - 1585);
        Check.owed("owed no more", pool, LOT, 0, 0);
        Check.due("the liquidity stays", pool.lot(2, -1, 1, 0), 536);
        Check.owed("the other lot", pool, new int[] {3, -1, 1}, 1598, 1599);
        Check.due("the other wallet", pool.wallet(3, 0), 1000000000 - 1599);
    }

    private static void owedNothing() {
        Check.sentence("What the lot is owed goes from the reserves to its owner's wallet.", "nothing");
        Pool pool = Check.richPool(1, 3, 0);
        pool.mint(2, -1, 1, 65536);
        pool.flash(1, 1000, 500);
        pool.advance(1);
        Check.unchanged("it has liquidity, and stays", pool, 0, x -> x.collect(2, -1, 1));
    }

    private static void notSettledBefore() {
        Check.sentence("(It is not settled before.)");
        Pool pool = Check.richPool(1, 100, 0);
        pool.mint(2, -1, 1, 65536);
        pool.flash(1, 1000, 500);
        Check.due("not settled", pool.collect(2, -1, 1), 0);
        Check.settled("the growth is still there", pool, LOT, 100, 50);
        pool.flash(1, 30, 20);
        Check.due("only what was settled", pool.collect(2, -1, 1), Check.pair(100, 50));
        Check.owed("owed no more", pool, LOT, 0, 0);
        Check.settled("the later growth", pool, LOT, 3, 2);
    }

    private static void goesWhenEmpty() {
        Check.sentence("A lot is gone when it has no liquidity and is owed nothing.", "by collect");
        Pool pool = Check.richPool(1, 3, 0);
        pool.mint(0, 1, 2, 1000);
        pool.mint(0, -2, -1, 1000);
        pool.burn(0, 1, 2, 1000);
        pool.burn(0, -2, -1, 1000);
        Check.owed("owed token 0 alone", pool, new int[] {0, 1, 2}, 23, 0);
        Check.owed("owed token 1 alone", pool, new int[] {0, -2, -1}, 0, 23);
        Check.due("token 0 alone", pool.collect(0, 1, 2), Check.pair(23, 0));
        Check.due("token 1 alone", pool.collect(0, -2, -1), Check.pair(0, 23));
        Check.refused("gone", pool, RangedPool.NO_LOT, x -> x.collect(0, 1, 2));
        Check.refused("gone", pool, RangedPool.NO_LOT, x -> x.collect(0, -2, -1));
    }

    /** The growth of a lot that is gone is gone too, also what rose while the lot was only owed something. */
    private static void aNewLotStartsFresh() {
        Check.sentence("A lot is gone when it has no liquidity and is owed nothing.", "a new one starts fresh");
        Pool pool = Check.richPool(1, 100, 0);
        pool.mint(0, -2, 2, 1024);
        pool.mint(1, -1, 1, 1000);
        pool.burn(1, -1, 1, 1000);
        pool.flash(0, 40, 40);
        pool.collect(1, -1, 1);
        pool.flash(0, 40, 40);
        pool.mint(1, -1, 1, 1000);
        Check.settled("the new lot", pool, new int[] {1, -1, 1}, 0, 0);
        Check.settled("all went to the other", pool, new int[] {0, -2, 2}, 8, 8);
    }

    private static void answers() {
        Check.sentence("Answers the amounts, as mint does.", "collect");
        Pool pool = Check.richPool(1, 3, -24);
        for (int i = 0; i < 20; i++) {
            pool.mint(2, -24, 24, 1000000);
            pool.burn(2, -24, 24, 1000000);
        }
        Check.due("20 times the most of token 0", pool.collect(2, -24, 24), Check.pair(20 * 1256293, 0));
        pool = Check.richPool(1, 3, 24);
        for (int i = 0; i < 20; i++) {
            pool.mint(2, -24, 24, 1000000);
            pool.burn(2, -24, 24, 1000000);
        }
        Check.due("20 times the most of token 1", pool.collect(2, -24, 24), Check.pair(0, 20 * 1255783));
    }

    private static void closed() {
        Check.sentence("CLOSED: the pool is not open.", "collect");
        Check.refused("before NO_LOT", new Pool(1, 3), RangedPool.CLOSED, x -> x.collect(0, -1, 1));
    }

    private static void noLot() {
        Check.sentence("`NO_LOT = -3`: There is no such lot.", "collect");
        Pool pool = Check.richPool(1, 3, 0);
        Check.refused("no lots at all", pool, RangedPool.NO_LOT, x -> x.collect(0, 0, 0));
        pool.mint(0, -1, 1, 1000);
        pool.burn(0, -1, 1, 500);
        Check.refused("another owner", pool, RangedPool.NO_LOT, x -> x.collect(1, -1, 1));
        Check.refused("another lo", pool, RangedPool.NO_LOT, x -> x.collect(0, -2, 1));
        Check.refused("another hi", pool, RangedPool.NO_LOT, x -> x.collect(0, -1, 2));
        Check.refused("no range", pool, RangedPool.NO_LOT, x -> x.collect(0, 1, -1));
        for (int owner : Check.NO_OWNERS) {
            Check.refused("no owner", pool, RangedPool.NO_LOT, x -> x.collect(owner, -1, 1));
        }
        for (int step : Check.NO_STEPS) {
            Check.refused("no step, lo", pool, RangedPool.NO_LOT, x -> x.collect(0, step, 1));
            Check.refused("no step, hi", pool, RangedPool.NO_LOT, x -> x.collect(0, -1, step));
        }
    }
}
