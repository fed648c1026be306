/** Promise 10: advance. */
public final class Promise10AdvanceTest {
    public static void main(String[] args) {
        ticks();
        edges();
        whenNotOpen();
        changesNothingElse();
        forALongTime();
        Check.end();
    }

    private static void ticks() {
        Check.sentence("The clock makes n ticks. Answers true");
        Pool pool = Check.openPool(1, 3, -24);
        Check.yes("one tick", pool.advance(1));
        Check.due("sum", pool.observe(0), -24);
        Check.yes("7 ticks", pool.advance(7));
        Check.due("sum", pool.observe(0), -24 * 8);
        Check.due("7 ticks before", pool.observe(7), -24);
        Check.due("8 ticks before", pool.observe(8), 0);
        Check.due("9 ticks before", pool.observe(9), RangedPool.OLD);
    }

    private static void edges() {
        Check.sentence("false when n is not 0 .. 10000");
        Pool pool = Check.openPool(1, 3, 5);
        for (int n : new int[] {-1, 10001, Integer.MIN_VALUE, Integer.MAX_VALUE}) {
            Check.refused("advance(" + n + ")", pool, 0, x -> x.advance(n) ? 1 : 0);
        }
        Check.unchanged("no tick is done all the same", pool, 1, x -> x.advance(0) ? 1 : 0);
        Check.yes("the most ticks", pool.advance(10000));
        Check.due("sum", pool.observe(0), 50000);
        Check.due("as long ago", pool.observe(10000), 0);
        Check.due("longer ago", pool.observe(10001), RangedPool.OLD);
    }

    private static void whenNotOpen() {
        Check.sentence("(Also when the pool is not open.)");
        Pool pool = new Pool(1, 3);
        for (int n : new int[] {-1, 10001, Integer.MIN_VALUE, Integer.MAX_VALUE}) {
            Check.refused("advance(" + n + ")", pool, 0, x -> x.advance(n) ? 1 : 0);
        }
        Check.yes("no tick", pool.advance(0));
        Check.yes("the most ticks", pool.advance(10000));
        Check.due("it is still not open", pool.observe(0), RangedPool.CLOSED);
        pool.open(-24);
        Check.due("the ticks before add nothing", pool.observe(0), 0);
        Check.due("and are before the oldest mark", pool.observe(1), RangedPool.OLD);
    }

    private static void changesNothingElse() {
        Check.sentence("The clock makes n ticks.");
        Pool pool = Check.richPool(1, 100, 0);
        pool.mint(0, -1, 1, 65536);
        pool.flash(1, 100, 100);
        pool.advance(10000);
        Check.at("price and step", pool, 65536, 0);
        Check.due("depth", pool.depth(), 65536);
        Check.due("wallet", pool.wallet(1, 0), 1000000000 - 10);
        Check.due("reserve", pool.reserve(0), 1599 + 10);
        Check.owed("not settled", pool, new int[] {0, -1, 1}, 0, 0);
    }

    private static void forALongTime() {
        Check.sentence("The clock makes n ticks.", "as often as can be");
        Pool pool = Check.openPool(1, 3, -24);
        for (int i = 0; i < 500; i++) {
            pool.advance(10000);
        }
        Check.due("sum", pool.observe(0), -24L * 5000000);
        Check.due("back at the opening", pool.observe(5000000), 0);
        Check.due("before it", pool.observe(5000001), RangedPool.OLD);
    }
}
