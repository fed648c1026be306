/** Promise 16: reserve. */
public final class Promise16ReserveTest {
    public static void main(String[] args) {
        empty();
        ofAToken();
        noToken();
        Check.end();
    }

    private static void empty() {
        Check.sentence("The reserve of a token", "of a new pool");
        Pool pool = new Pool(1, 3);
        due(pool, "nothing", 0, 0);
        pool.fund(0, 0, 5);
        pool.fund(0, 1, 6);
        pool.open(0);
        due(pool, "fund and open", 0, 0);
    }

    private static void ofAToken() {
        Check.sentence("The reserve of a token");
        Pool pool = Check.richPool(1, 100, 0);
        pool.mint(1, -1, 1, 65536);
        due(pool, "mint", 1599, 1599);
        pool.flash(2, 10, 20);
        due(pool, "flash", 1600, 1601);
        pool.quote(true, -1000, -24);
        due(pool, "quote", 1600, 1601);
        pool.swap(3, true, -1000, -24);
        due(pool, "swap", 2729, 601);
        pool.burn(1, -1, 1, 65536);
        due(pool, "burn", 2729, 601);
        pool.collect(1, -1, 1);
        due(pool, "collect: what the roundings left", 2, 0);
        Check.unchanged("it only asks", pool, 2, x -> x.reserve(0));
    }

    private static void due(Pool pool, String after, long zero, long one) {
        Check.due("token 0 after " + after, pool.reserve(0), zero);
        Check.due("token 1 after " + after, pool.reserve(1), one);
    }

    private static void noToken() {
        Check.sentence("BAD when there is no such token.", "reserve");
        Pool pool = Check.richPool(1, 3, 0);
        pool.mint(1, -1, 1, 65536);
        for (int token : Check.NO_TOKENS) {
            Check.refused("token " + token, pool, RangedPool.BAD, x -> x.reserve(token));
            Check.due("not open", new Pool(1, 3).reserve(token), RangedPool.BAD);
        }
    }
}
