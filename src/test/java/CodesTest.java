/** What all codes have in common: a refused call changes nothing, whatever state the pool is in. */
public final class CodesTest {
    public static void main(String[] args) {
        values();
        closedPool();
        emptyPool();
        Pool pool = busyPool();
        refusedOpenFundAdvance(pool);
        refusedMint(pool);
        refusedBurnAndCollect(pool);
        refusedSwap(pool);
        refusedQuote(pool);
        refusedFlash(pool);
        refusedQuestions(pool);
        goesOnAsIfNothingWere(pool);
        Check.end();
    }

    private static void values() {
        Check.sentence("The constants");
        Check.due("CLOSED", RangedPool.CLOSED, -1);
        Check.due("BAD", RangedPool.BAD, -2);
        Check.due("NO_LOT", RangedPool.NO_LOT, -3);
        Check.due("FULL", RangedPool.FULL, -4);
        Check.due("POOR", RangedPool.POOR, -5);
        Check.due("OLD", RangedPool.OLD, -1000000000);
    }

    private static void closedPool() {
        Check.sentence("CLOSED: the pool is not open.");
        Pool pool = new Pool(1, 3);
        for (int owner = 0; owner < 4; owner++) {
            pool.fund(owner, 0, 1000000);
            pool.fund(owner, 1, 1000000);
        }
        pool.advance(3);
        Check.refused("mint", pool, RangedPool.CLOSED, x -> x.mint(0, -1, 1, 1));
        Check.refused("burn", pool, RangedPool.CLOSED, x -> x.burn(0, -1, 1, 0));
        Check.refused("collect", pool, RangedPool.CLOSED, x -> x.collect(0, -1, 1));
        Check.refused("swap down", pool, RangedPool.CLOSED, x -> x.swap(0, true, 1, -1));
        Check.refused("swap up", pool, RangedPool.CLOSED, x -> x.swap(0, false, 1, 1));
        Check.refused("quote", pool, RangedPool.CLOSED, x -> x.quote(false, 1, 1));
        Check.refused("flash", pool, RangedPool.CLOSED, x -> x.flash(0, 0, 0));
        Check.refused("observe", pool, RangedPool.CLOSED, x -> x.observe(0));
        Check.refused("open", pool, 0, x -> x.open(25) ? 1 : 0);
        Check.refused("fund", pool, 0, x -> x.fund(0, 0, -1) ? 1 : 0);
        Check.refused("advance", pool, 0, x -> x.advance(-1) ? 1 : 0);
        Check.refused("lot", pool, RangedPool.NO_LOT, x -> x.lot(0, -1, 1, 0));
    }

    private static void emptyPool() {
        Check.sentence("A call that answers a code below 0, or false, changes nothing.", "an empty pool");
        Pool pool = Check.openPool(1, 3, 0);
        Check.refused("open", pool, 0, x -> x.open(0) ? 1 : 0);
        Check.refused("mint", pool, RangedPool.POOR, x -> x.mint(0, -1, 1, 1));
        Check.refused("burn", pool, RangedPool.NO_LOT, x -> x.burn(0, -1, 1, 0));
        Check.refused("collect", pool, RangedPool.NO_LOT, x -> x.collect(0, -1, 1));
        Check.refused("swap", pool, RangedPool.BAD, x -> x.swap(0, true, 1, 0));
        Check.refused("quote", pool, RangedPool.BAD, x -> x.quote(true, 1, 0));
        Check.refused("flash", pool, RangedPool.BAD, x -> x.flash(0, 0, 0));
        Check.refused("observe", pool, RangedPool.OLD, x -> x.observe(1));
    }

    /** 10 lots, some of them with growth, some owed something, one without liquidity; 8 marks; owners 2 and 3 are poor. */
    private static Pool busyPool() {
        Check.sentence("A call that answers a code below 0, or false, changes nothing.", "a full pool");
        Pool pool = new Pool(2, 30);
        pool.advance(5);
        pool.open(1);
        for (int owner = 0; owner < 2; owner++) {
            pool.fund(owner, 0, 1000000);
            pool.fund(owner, 1, 1000000);
        }
        pool.fund(2, 0, 3);
        pool.fund(2, 1, 3);
        for (int i = 1; i <= 9; i++) {
            pool.advance(1);
            Check.yes("lot " + i, pool.mint(i % 2, -2 * i, 2 * i + 2, 1000 * i) > 0);
        }
        Check.yes("lot 10", pool.mint(2, 0, 2, 20) > 0);
        pool.burn(0, -4, 6, 2000);
        pool.flash(0, 500, 700);
        pool.burn(1, -2, 4, 500);
        Check.yes("over a step, up", pool.swap(0, false, 3000, 24) > 0);
        Check.yes("and down", pool.swap(1, true, 4000, -24) > 0);
        pool.flash(1, 900, 100);
        pool.advance(2);
        return pool;
    }

    private static void refusedOpenFundAdvance(Pool pool) {
        Check.refused("open", pool, 0, x -> x.open(0) ? 1 : 0);
        Check.refused("open, no step", pool, 0, x -> x.open(25) ? 1 : 0);
        Check.refused("fund, owner", pool, 0, x -> x.fund(4, 0, 1) ? 1 : 0);
        Check.refused("fund, token", pool, 0, x -> x.fund(0, 2, 1) ? 1 : 0);
        Check.refused("fund, amount", pool, 0, x -> x.fund(0, 0, 1000000001) ? 1 : 0);
        Check.refused("advance, below", pool, 0, x -> x.advance(-1) ? 1 : 0);
        Check.refused("advance, above", pool, 0, x -> x.advance(10001) ? 1 : 0);
    }

    private static void refusedMint(Pool pool) {
        Check.refused("mint, owner", pool, RangedPool.BAD, x -> x.mint(4, -2, 4, 1));
        Check.refused("mint, range", pool, RangedPool.BAD, x -> x.mint(1, -1, 4, 1));
        Check.refused("mint, liquidity", pool, RangedPool.BAD, x -> x.mint(1, -2, 4, 0));
        Check.refused("mint, FULL of lots", pool, RangedPool.FULL, x -> x.mint(0, -2, 4, 1));
        Check.refused("mint, FULL of liquidity", pool, RangedPool.FULL, x -> x.mint(1, -2, 4, 1000000));
        Check.refused("mint, POOR", pool, RangedPool.POOR, x -> x.mint(2, 0, 2, 1000));
    }

    private static void refusedBurnAndCollect(Pool pool) {
        Check.refused("burn, NO_LOT", pool, RangedPool.NO_LOT, x -> x.burn(0, -2, 4, 0));
        Check.refused("burn, too much", pool, RangedPool.BAD, x -> x.burn(1, -2, 4, 501));
        Check.refused("burn, below 0", pool, RangedPool.BAD, x -> x.burn(1, -2, 4, -1));
        Check.refused("burn, without liquidity", pool, RangedPool.BAD, x -> x.burn(0, -4, 6, 1));
        Check.refused("collect, NO_LOT", pool, RangedPool.NO_LOT, x -> x.collect(0, -2, 4));
    }

    private static void refusedSwap(Pool pool) {
        Check.refused("swap, owner", pool, RangedPool.BAD, x -> x.swap(4, true, 5, -24));
        Check.refused("swap, amount", pool, RangedPool.BAD, x -> x.swap(1, true, 0, -24));
        Check.refused("swap, limit", pool, RangedPool.BAD, x -> x.swap(1, true, 5, -25));
        Check.refused("swap, its price", pool, RangedPool.BAD, x -> x.swap(1, true, 5, 24));
        Check.refused("swap down, POOR", pool, RangedPool.POOR, x -> x.swap(2, true, 1000000, -24));
        Check.refused("swap up, POOR", pool, RangedPool.POOR, x -> x.swap(2, false, -1000000, 24));
        Check.refused("swap of 1, POOR", pool, RangedPool.POOR, x -> x.swap(3, false, 1, 24));
    }

    private static void refusedQuote(Pool pool) {
        Check.refused("quote, amount", pool, RangedPool.BAD, x -> x.quote(true, 1000001, -24));
        Check.refused("quote, limit", pool, RangedPool.BAD, x -> x.quote(false, 5, 25));
        Check.refused("quote, its price", pool, RangedPool.BAD, x -> x.quote(false, 5, -24));
    }

    private static void refusedFlash(Pool pool) {
        Check.refused("flash, owner", pool, RangedPool.BAD, x -> x.flash(-1, 1, 1));
        Check.refused("flash, zero", pool, RangedPool.BAD, x -> x.flash(0, -1, 1));
        Check.refused("flash, one", pool, RangedPool.BAD, x -> x.flash(0, 1, 1000001));
        Check.refused("flash, reserve", pool, RangedPool.BAD, x -> x.flash(0, 0, 1000000));
        Check.refused("flash, POOR", pool, RangedPool.POOR, x -> x.flash(3, 10, 0));
    }

    private static void refusedQuestions(Pool pool) {
        Check.refused("observe, BAD", pool, RangedPool.BAD, x -> x.observe(-1));
        Check.refused("observe, OLD", pool, RangedPool.OLD, x -> x.observe(1000));
        Check.refused("wallet", pool, RangedPool.BAD, x -> x.wallet(4, 0));
        Check.refused("reserve", pool, RangedPool.BAD, x -> x.reserve(2));
        Check.refused("lot, NO_LOT", pool, RangedPool.NO_LOT, x -> x.lot(0, -2, 4, 0));
        Check.refused("lot, BAD", pool, RangedPool.BAD, x -> x.lot(1, -2, 4, 3));
    }

    /** The same calls on a pool that was never refused anything. */
    private static void goesOnAsIfNothingWere(Pool pool) {
        Pool other = busyPool();
        for (int i = 0; i < 10; i++) {
            Check.due("swap down", pool.swap(0, true, 700, -24), other.swap(0, true, 700, -24));
            Check.due("flash", pool.flash(1, 50, 50), other.flash(1, 50, 50));
            Check.due("swap up", pool.swap(1, false, -900, 24), other.swap(1, false, -900, 24));
            Check.due("burn", pool.burn(1, -2, 4, 10), other.burn(1, -2, 4, 10));
            Check.due("collect", pool.collect(1, -2, 4), other.collect(1, -2, 4));
            Check.due("observe", pool.observe(i), other.observe(i));
        }
    }
}
