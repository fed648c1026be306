/** Promise 10: advance. */
public final class Promise10AdvanceTest {
    public static void main(String[] args) {
        RangedPool pool = new RangedPool(1, 3);
        Check.yes("before opening", pool.advance(10000));
        Check.no("wrong before opening", pool.advance(-1));
        Check.yes("open", pool.open(-24));
        Check.due("the time before opening counts nothing", pool.observe(0), 0);
        Check.due("and is before the oldest mark", pool.observe(1), RangedPool.OLD);
        Check.yes("no tick", pool.advance(0));
        Check.due("sum", pool.observe(0), 0);
        Check.yes("one tick", pool.advance(1));
        Check.due("sum", pool.observe(0), -24);
        Check.yes("the most ticks", pool.advance(10000));
        Check.due("sum", pool.observe(0), -24 * 10001);
        for (int n : new int[] {-1, 10001, Integer.MIN_VALUE, Integer.MAX_VALUE}) {
            Check.no("advance(" + n + ")", pool.advance(n));
        }
        Check.due("wrong numbers make no tick", pool.observe(0), -24 * 10001);
        Check.due("nor a later clock", pool.observe(10001), 0);
        Check.due("nor a later clock", pool.observe(10002), RangedPool.OLD);
        for (int i = 0; i < 480; i++) {
            pool.advance(10000);
        }
        Check.due("a long time", pool.observe(0), -24L * 4810001);
        Check.due("and back", pool.observe(4810001), 0);
        Check.end();
    }
}
