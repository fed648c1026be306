/** Promise 11: observe. The clock, the sum and the marks are tested in TermsTimeTest. */
public final class Promise11ObserveTest {
    public static void main(String[] args) {
        sumAsItWas();
        changesNothing();
        closed();
        bad();
        old();
        oldWhenMarksGo();
        sumAsLowAsACode();
        firstCode();
        Check.end();
    }

    /** Step 0 for 4 ticks, -3 for 5, 7 for 6: the sum after each tick is known. */
    private static void sumAsItWas() {
        Check.sentence("The SUM as it was ago ticks before.");
        Pool pool = new Pool(1, 3);
        pool.advance(11);
        pool.open(0);
        pool.advance(4);
        pool.swap(0, true, 1, -3);
        pool.advance(2);
        pool.advance(3);
        pool.swap(0, false, 1, 7);
        pool.advance(6);
        long[] sums = {0, 0, 0, 0, 0, -3, -6, -9, -12, -15, -8, -1, 6, 13, 20, 27};
        for (int ago = 0; ago < 16; ago++) {
            Check.due("observe(" + ago + ")", pool.observe(ago), sums[15 - ago]);
        }
        Check.due("before opening", pool.observe(16), RangedPool.OLD);
    }

    private static void changesNothing() {
        Check.sentence("The SUM as it was ago ticks before.", "it only asks");
        Pool pool = Check.openPool(1, 3, 2);
        pool.advance(5);
        Check.unchanged("observe", pool, 4, x -> x.observe(3));
        Check.refused("OLD", pool, RangedPool.OLD, x -> x.observe(6));
    }

    private static void closed() {
        Check.sentence("CLOSED: the pool is not open.", "observe");
        Pool pool = new Pool(1, 3);
        Check.refused("at first", pool, RangedPool.CLOSED, x -> x.observe(0));
        pool.advance(9);
        Check.refused("later", pool, RangedPool.CLOSED, x -> x.observe(3));
        pool.open(1);
        Check.due("open", pool.observe(0), 0);
    }

    private static void bad() {
        Check.sentence("BAD when ago is below 0");
        Pool pool = Check.openPool(1, 3, 1);
        pool.advance(4);
        Check.refused("-1", pool, RangedPool.BAD, x -> x.observe(-1));
        Check.refused("the least", pool, RangedPool.BAD, x -> x.observe(Integer.MIN_VALUE));
        Check.due("0", pool.observe(0), 4);
    }

    private static void old() {
        Check.sentence("OLD when that was before the oldest of the marks of time");
        Pool pool = Check.openPool(1, 3, 1);
        Check.due("now", pool.observe(0), 0);
        Check.refused("1 before", pool, RangedPool.OLD, x -> x.observe(1));
        Check.refused("the most", pool, RangedPool.OLD, x -> x.observe(Integer.MAX_VALUE));
        pool.advance(10000);
        Check.due("at the mark", pool.observe(10000), 0);
        Check.refused("1 before", pool, RangedPool.OLD, x -> x.observe(10001));
        Check.refused("the most", pool, RangedPool.OLD, x -> x.observe(Integer.MAX_VALUE));
        pool = new Pool(1, 3);
        pool.advance(10);
        pool.open(1);
        Check.refused("the clock ran, but the pool was not open", pool, RangedPool.OLD, x -> x.observe(1));
    }

    private static void oldWhenMarksGo() {
        Check.sentence("OLD when that was before the oldest of the marks of time.", "marks go");
        Pool pool = Check.openPool(1, 3, 0);
        for (int i = 1; i <= 7; i++) {
            pool.advance(10);
            pool.swap(0, i % 2 == 0, 1, i % 2);
        }
        Check.due("8 marks, the oldest", pool.observe(70), 0);
        Check.due("before it", pool.observe(71), RangedPool.OLD);
        pool.advance(10);
        pool.swap(0, true, 1, 0);
        Check.due("the second is the oldest now", pool.observe(70), 0);
        Check.due("before it", pool.observe(71), RangedPool.OLD);
        Check.due("in the middle of the first 1", pool.observe(65), 5);
        Check.due("1 for four times 10 ticks", pool.observe(0), 40);
    }

    private static void sumAsLowAsACode() {
        Check.sentence("(A sum may be as low as a code; it is answered all the same.)");
        Pool pool = Check.openPool(1, 3, -1);
        for (int sum = -1; sum >= -6; sum--) {
            pool.advance(1);
            Check.due("the sum " + sum, pool.observe(0), sum);
        }
        for (int ago = 0; ago <= 6; ago++) {
            Check.due("the sum " + ago + " ago", pool.observe(ago), ago - 6);
        }
    }

    private static void firstCode() {
        Check.sentence("Where several codes would do, the first that its comment names is answered.", "observe");
        Check.refused("CLOSED before BAD", new Pool(1, 3), RangedPool.CLOSED, x -> x.observe(-1));
        Check.refused("CLOSED before OLD", new Pool(1, 3), RangedPool.CLOSED, x -> x.observe(5));
    }
}
