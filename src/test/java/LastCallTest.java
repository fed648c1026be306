/** An object is used for at most 512 calls after it has been made: up to the last one every answer is as due. */
public final class LastCallTest {
    public static void main(String[] args) {
        Check.sentence("An object is used for at most 512 calls after it has been made");
        changes();
        questions();
        Check.end();
    }

    /** After 511 calls that leave wallets full, one lot from step -1 to step 1, and the clock at 10000. */
    private static Pool used() {
        Pool pool = Check.richPool(1, 100, 0);
        pool.mint(0, -1, 1, 65536);
        pool.flash(1, 100, 50);
        pool.burn(0, -1, 1, 0);
        pool.advance(10000);
        while (pool.callsLeft() > 1) {
            pool.fund(2, 0, 1000000000);
        }
        return pool;
    }

    private static void due(String call, long want, Pool.Call last) {
        Pool pool = used();
        Check.due("the last call: " + call, pool.answer(last), want);
        Check.due("no call is left", pool.callsLeft(), 0);
    }

    private static void changes() {
        due("open", 0, x -> x.open(0) ? 1 : 0);
        due("fund", 1, x -> x.fund(3, 1, 1000000000) ? 1 : 0);
        due("mint", Check.pair(25, 25), x -> x.mint(3, -1, 1, 1000));
        due("burn", Check.pair(1598, 1599), x -> x.burn(0, -1, 1, 65536));
        due("collect", Check.pair(10, 5), x -> x.collect(0, -1, 1));
        due("swap", Check.pair(1129, 1000), x -> x.swap(2, true, -1000, -24));
        due("flash", Check.pair(100, 100), x -> x.flash(3, 1000, 1000));
        due("advance", 1, x -> x.advance(10000) ? 1 : 0);
    }

    private static void questions() {
        due("quote", Check.pair(1129, 1000), x -> x.quote(false, -1000, 24));
        due("observe", 0, x -> x.observe(10000));
        due("observe, OLD", RangedPool.OLD, x -> x.observe(10001));
        due("price", 65536, RangedPool::price);
        due("step", 0, RangedPool::step);
        due("depth", 65536, RangedPool::depth);
        due("wallet", 499000000000L, x -> x.wallet(2, 0));
        due("reserve", 1599 + 10, x -> x.reserve(0));
        due("lot", 10, x -> x.lot(0, -1, 1, 1));
        due("net", -65536, x -> x.net(1));
    }
}
