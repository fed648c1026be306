/** Promise 16: reserve. */
public final class Promise16ReserveTest {
    public static void main(String[] args) {
        RangedPool pool = new RangedPool(1, 3);
        Check.due("token 0", pool.reserve(0), 0);
        Check.due("token 1", pool.reserve(1), 0);
        for (int wrong : new int[] {-1, 2, Integer.MIN_VALUE, Integer.MAX_VALUE}) {
            Check.due("token " + wrong, pool.reserve(wrong), RangedPool.BAD);
        }
        pool = Check.richPool(1, 100, 0);
        pool.mint(1, -1, 1, 65536);
        due(pool, "mint", 1599, 1599);
        pool.flash(2, 10, 20);
        due(pool, "flash", 1600, 1601);
        pool.quote(true, -1000, -24);
        due(pool, "quote", 1600, 1601);
        pool.swap(3, true, -1000, -24);
        due(pool, "swap", 2729, 601);
        pool.burn(1, -1, 1, 65536);
        due(pool, "burn", 2729, 601);
        pool.collect(1, -1, 1);
        due(pool, "collect: what the roundings left", 2, 0);
        Check.end();
    }

    private static void due(RangedPool pool, String after, long zero, long one) {
        Check.due("token 0 after " + after, pool.reserve(0), zero);
        Check.due("token 1 after " + after, pool.reserve(1), one);
    }
}
