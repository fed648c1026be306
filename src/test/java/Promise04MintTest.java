/** Promise 4: mint. */
public final class Promise04MintTest {
    public static void main(String[] args) {
        paysByPlace();
        priceInsideAStep();
        stepBelowItsPrice();
        growsAndSettles();
        codes();
        tooManyLots();
        tooMuchLiquidity();
        poorInOneToken();
        Check.end();
    }

    private static void paysByPlace() {
        for (int lo = -24; lo < 24; lo++) {
            for (int hi = lo + 1; hi <= 24; hi++) {
                RangedPool pool = Check.richPool(1, 3, 0);
                int low = Check.stepPrice(lo);
                int high = Check.stepPrice(hi);
                long zero = hi <= 0 ? 0 : Check.zero(lo > 0 ? low : 65536, high, 12345, true);
                long one = lo > 0 ? 0 : Check.one(low, hi <= 0 ? high : 65536, 12345, true);
                Check.due("mint " + lo + " .. " + hi, pool.mint(1, lo, hi, 12345), Check.pair(zero, one));
                Check.due("wallet 0", pool.wallet(1, 0), 1000000000 - zero);
                Check.due("wallet 1", pool.wallet(1, 1), 1000000000 - one);
                Check.due("reserve 0", pool.reserve(0), zero);
                Check.due("reserve 1", pool.reserve(1), one);
                Check.due("lot", pool.lot(1, lo, hi, 0), 12345);
                Check.due("depth", pool.depth(), lo <= 0 && hi > 0 ? 12345 : 0);
            }
        }
        RangedPool pool = Check.richPool(1, 3, 0);
        Check.due("1 liquidity is rounded up", pool.mint(0, -1, 1, 1), Check.pair(1, 1));
        Check.due("0 .. 1 has no token 1 at its foot", pool.mint(0, 0, 1, 1000), Check.pair(25, 0));
        Check.due("-1 .. 0 has token 1 alone", pool.mint(0, -1, 0, 1000), Check.pair(0, 25));
    }

    /** The price is 66536, above P(0) and below P(1). */
    private static void priceInsideAStep() {
        RangedPool pool = Check.richPool(1, 0, 0);
        pool.mint(0, -24, 24, 65536);
        pool.swap(0, false, 1000, 24);
        Check.due("price", pool.price(), 66536);
        Check.due("up to the step: all of it is token 1", pool.mint(1, -1, 0, 1000), Check.pair(0, 25));
        Check.due("from the step: some of both", pool.mint(1, 0, 1, 1000), Check.pair(10, 16));
        Check.due("from the next: all of it is token 0", pool.mint(1, 1, 2, 1000), Check.pair(24, 0));
        Check.due("rounded down, up to the step", pool.burn(1, -1, 0, 1000), Check.pair(0, 24));
        Check.due("rounded down, from the step", pool.burn(1, 0, 1, 1000), Check.pair(9, 15));
        Check.due("rounded down, from the next", pool.burn(1, 1, 2, 1000), Check.pair(23, 0));
    }

    /** After a marked step is crossed downwards the price is its price, and the step is the one below. */
    private static void stepBelowItsPrice() {
        RangedPool pool = Check.richPool(1, 0, 2);
        pool.mint(0, 0, 4, 1000);
        pool.swap(0, true, 1000000, 0);
        Check.due("price", pool.price(), 65536);
        Check.due("step", pool.step(), -1);
        Check.due("from this step up", pool.mint(0, 0, 1, 1000), Check.pair(25, 0));
        Check.due("up to this step", pool.mint(0, -1, 0, 1000), Check.pair(0, 25));
        Check.due("depth", pool.depth(), 1000);
    }

    private static void growsAndSettles() {
        RangedPool pool = Check.richPool(1, 10, 0);
        pool.mint(0, -4, 4, 1000);
        pool.flash(1, 50, 90);
        Check.due("not settled yet", pool.lot(0, -4, 4, 1), 0);
        pool.mint(0, -4, 4, 500);
        Check.due("liquidity", pool.lot(0, -4, 4, 0), 1500);
        Check.due("owed 0", pool.lot(0, -4, 4, 1), 0);
        Check.due("owed 1", pool.lot(0, -4, 4, 2), 0);
        pool.flash(1, 100, 100);
        pool.flash(1, 100, 100);
        pool.mint(0, -4, 4, 1);
        Check.due("two fees of 1 from 1500: 2 * (2863311 * 1500) / 2^32", pool.lot(0, -4, 4, 1), 1);
        Check.due("owed 1", pool.lot(0, -4, 4, 2), 1);
        pool.mint(0, -4, 4, 1);
        Check.due("settled once only", pool.lot(0, -4, 4, 1), 1);
        Check.due("another owner's lot", pool.lot(1, -4, 4, 0), RangedPool.NO_LOT);
        pool.mint(1, -4, 4, 9);
        Check.due("is another lot", pool.lot(1, -4, 4, 0), 9);
        Check.due("beside the first", pool.lot(0, -4, 4, 0), 1502);
    }

    private static void codes() {
        RangedPool closed = new RangedPool(1, 3);
        Check.due("CLOSED comes first", closed.mint(9, 9, 9, 0), RangedPool.CLOSED);
        RangedPool pool = Check.richPool(2, 3, 0);
        pool.mint(0, -2, 2, 1000000);
        String before = Check.state(pool, new int[] {-2, 2});
        for (int owner : new int[] {-1, 4, Integer.MIN_VALUE, Integer.MAX_VALUE}) {
            Check.due("owner " + owner, pool.mint(owner, -2, 2, 1), RangedPool.BAD);
        }
        int[][] ranges = {{0, 0}, {2, 0}, {-26, 0}, {0, 26}, {1, 2}, {0, 1}, {-1, 2}, {-25, 24}, {-24, 25},
            {Integer.MIN_VALUE, 0}, {0, Integer.MAX_VALUE}, {Integer.MIN_VALUE, Integer.MAX_VALUE}};
        for (int[] range : ranges) {
            Check.due("range " + range[0] + " .. " + range[1], pool.mint(0, range[0], range[1], 1), RangedPool.BAD);
        }
        for (int liquidity : new int[] {0, -1, 1000001, Integer.MIN_VALUE, Integer.MAX_VALUE}) {
            Check.due("liquidity " + liquidity, pool.mint(0, -2, 2, liquidity), RangedPool.BAD);
        }
        Check.due("FULL", pool.mint(0, -2, 2, 1), RangedPool.FULL);
        Check.same("codes", Check.state(pool, new int[] {-2, 2}), before);
    }

    private static void tooManyLots() {
        RangedPool pool = Check.richPool(1, 3, 0);
        for (int i = 1; i <= 10; i++) {
            Check.yes("lot " + i, pool.mint(i % 4, -i, i, 100) > 0);
        }
        Check.due("the 11th", pool.mint(0, -11, 11, 1), RangedPool.FULL);
        Check.due("the 11th, of another owner", pool.mint(0, -1, 1, 1), RangedPool.FULL);
        Check.yes("one that is there", pool.mint(1, -1, 1, 1) > 0);
        pool.burn(2, -2, 2, 100);
        Check.due("without liquidity, but still owed", pool.mint(0, -11, 11, 1), RangedPool.FULL);
        pool.collect(2, -2, 2);
        Check.yes("in place of one that is gone", pool.mint(0, -11, 11, 1) > 0);
        Check.due("its liquidity", pool.lot(0, -11, 11, 0), 1);
        Check.due("no more than 10 again", pool.mint(2, -2, 2, 1), RangedPool.FULL);
        Check.due("FULL before POOR", fullAndPoor(), RangedPool.FULL);
    }

    private static long fullAndPoor() {
        RangedPool pool = new RangedPool(1, 3);
        pool.open(0);
        pool.fund(0, 0, 1000000000);
        pool.mint(0, 1, 24, 1000000);
        return pool.mint(3, 1, 24, 1);
    }

    private static void tooMuchLiquidity() {
        RangedPool pool = Check.richPool(1, 3, 0);
        Check.yes("600000", pool.mint(0, -1, 1, 600000) > 0);
        Check.due("400001 in another range", pool.mint(1, 5, 6, 400001), RangedPool.FULL);
        Check.due("400001 in the same", pool.mint(0, -1, 1, 400001), RangedPool.FULL);
        Check.yes("400000", pool.mint(1, 5, 6, 400000) > 0);
        Check.due("1 more", pool.mint(1, 5, 6, 1), RangedPool.FULL);
        pool.burn(0, -1, 1, 5);
        Check.yes("what was burned", pool.mint(1, 5, 6, 5) > 0);
    }

    private static void poorInOneToken() {
        RangedPool pool = new RangedPool(1, 3);
        pool.open(0);
        pool.fund(0, 0, 25);
        pool.fund(0, 1, 24);
        String before = Check.state(pool, new int[] {-1, 1});
        Check.due("token 1 is short", pool.mint(0, -1, 1, 1000), RangedPool.POOR);
        Check.same("POOR", Check.state(pool, new int[] {-1, 1}), before);
        pool.fund(0, 1, 1);
        Check.due("just enough", pool.mint(0, -1, 1, 1000), Check.pair(25, 25));
        Check.due("nothing is left", pool.wallet(0, 0) + pool.wallet(0, 1), 0);
        pool.fund(1, 0, 24);
        pool.fund(1, 1, 25);
        Check.due("token 0 is short", pool.mint(1, -1, 1, 1000), RangedPool.POOR);
    }
}
