/** Promise 5: burn. */
public final class Promise05BurnTest {
    public static void main(String[] args) {
        worth();
        settlesFirst();
        onlySettles();
        goesAtOnce();
        staysForOneToken();
        codes();
        Check.end();
    }

    private static void worth() {
        for (int lo = -24; lo < 24; lo += 3) {
            for (int hi = lo + 1; hi <= 24; hi++) {
                RangedPool pool = Check.richPool(1, 3, 0);
                pool.mint(1, lo, hi, 70000);
                int low = Check.stepPrice(lo);
                int high = Check.stepPrice(hi);
                long zero = hi <= 0 ? 0 : Check.zero(lo > 0 ? low : 65536, high, 33333, false);
                long one = lo > 0 ? 0 : Check.one(low, hi <= 0 ? high : 65536, 33333, false);
                long reserves = pool.reserve(0) + pool.reserve(1);
                Check.due("burn " + lo + " .. " + hi, pool.burn(1, lo, hi, 33333), Check.pair(zero, one));
                Check.due("liquidity", pool.lot(1, lo, hi, 0), 70000 - 33333);
                Check.due("owed 0", pool.lot(1, lo, hi, 1), zero);
                Check.due("owed 1", pool.lot(1, lo, hi, 2), one);
                Check.due("the reserves stay", pool.reserve(0) + pool.reserve(1), reserves);
            }
        }
    }

    /** The growth counts for the liquidity that the lot had, and is no part of the answer. */
    private static void settlesFirst() {
        RangedPool pool = Check.richPool(1, 100, 0);
        pool.mint(0, -1, 1, 65536);
        pool.flash(1, 1000, 500);
        Check.due("burn", pool.burn(0, -1, 1, 65536), Check.pair(1598, 1599));
        Check.due("owed 0", pool.lot(0, -1, 1, 1), 1698);
        Check.due("owed 1", pool.lot(0, -1, 1, 2), 1649);
        Check.due("depth", pool.depth(), 0);
        Check.due("liquidity", pool.lot(0, -1, 1, 0), 0);
        Check.due("nothing is left to burn", pool.burn(0, -1, 1, 1), RangedPool.BAD);
        Check.due("settling again adds nothing", pool.burn(0, -1, 1, 0), 0);
        Check.due("owed 0", pool.lot(0, -1, 1, 1), 1698);
    }

    private static void onlySettles() {
        RangedPool pool = Check.richPool(1, 100, 0);
        pool.mint(0, -1, 1, 3);
        pool.mint(1, -1, 1, 4);
        pool.mint(2, 1, 2, 500);
        pool.mint(2, -3, 0, 500);
        pool.flash(3, 2, 1);
        Check.due("burn 0", pool.burn(0, -1, 1, 0), 0);
        Check.due("3 sevenths of 1, rounded down", pool.lot(0, -1, 1, 1), 0);
        pool.flash(3, 2, 1);
        pool.flash(3, 2, 1);
        pool.flash(3, 2, 1);
        Check.due("burn 0", pool.burn(0, -1, 1, 0), 0);
        Check.due("3 times 3 sevenths", pool.lot(0, -1, 1, 1), 1);
        pool.burn(1, -1, 1, 0);
        Check.due("4 times 4 sevenths", pool.lot(1, -1, 1, 1), 2);
        Check.due("4 times 4 sevenths", pool.lot(1, -1, 1, 2), 2);
        pool.burn(2, 1, 2, 0);
        Check.due("above: out of range", pool.lot(2, 1, 2, 1), 0);
        pool.burn(2, -3, 0, 0);
        Check.due("below: out of range", pool.lot(2, -3, 0, 2), 0);
    }

    private static void goesAtOnce() {
        RangedPool pool = Check.richPool(1, 3, 0);
        pool.mint(0, -1, 1, 5);
        Check.due("worth nothing", pool.burn(0, -1, 1, 5), 0);
        Check.due("owed nothing: gone", pool.lot(0, -1, 1, 0), RangedPool.NO_LOT);
        Check.due("gone", pool.burn(0, -1, 1, 0), RangedPool.NO_LOT);
    }

    private static void staysForOneToken() {
        RangedPool pool = Check.richPool(1, 3, 0);
        pool.mint(0, 1, 2, 1000);
        pool.mint(0, -2, -1, 1000);
        pool.burn(0, 1, 2, 1000);
        pool.burn(0, -2, -1, 1000);
        Check.due("owed token 0 alone", pool.lot(0, 1, 2, 1), 23);
        Check.due("owed token 1 alone", pool.lot(0, -2, -1, 2), 23);
        Check.due("collect", pool.collect(0, 1, 2), Check.pair(23, 0));
        Check.due("collect", pool.collect(0, -2, -1), Check.pair(0, 23));
        Check.due("gone", pool.lot(0, 1, 2, 0), RangedPool.NO_LOT);
        Check.due("gone", pool.lot(0, -2, -1, 0), RangedPool.NO_LOT);
    }

    private static void codes() {
        RangedPool closed = new RangedPool(1, 3);
        Check.due("CLOSED", closed.burn(0, -1, 1, -1), RangedPool.CLOSED);
        RangedPool pool = Check.richPool(1, 3, 0);
        pool.mint(0, -1, 1, 1000);
        pool.advance(1);
        String before = Check.state(pool, new int[] {-1, 1});
        Check.due("another owner", pool.burn(1, -1, 1, 0), RangedPool.NO_LOT);
        Check.due("another lo", pool.burn(0, 0, 1, 0), RangedPool.NO_LOT);
        Check.due("another hi", pool.burn(0, -1, 2, 0), RangedPool.NO_LOT);
        Check.due("no owner", pool.burn(-1, -1, 1, 0), RangedPool.NO_LOT);
        Check.due("no range", pool.burn(0, Integer.MIN_VALUE, Integer.MAX_VALUE, 0), RangedPool.NO_LOT);
        Check.due("NO_LOT before BAD", pool.burn(1, -1, 1, -1), RangedPool.NO_LOT);
        for (int liquidity : new int[] {-1, 1001, Integer.MIN_VALUE, Integer.MAX_VALUE}) {
            Check.due("liquidity " + liquidity, pool.burn(0, -1, 1, liquidity), RangedPool.BAD);
        }
        Check.same("codes", Check.state(pool, new int[] {-1, 1}), before);
    }
}
