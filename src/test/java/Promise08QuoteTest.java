/** Promise 8: quote, which answers as swap does and changes nothing. */
public final class Promise08QuoteTest {
    private static final int[][] RANGES = {{-6, 6}, {-2, 1}, {1, 4}};

    public static void main(String[] args) {
        asSwap();
        withoutMoney();
        leavesNoFee();
        makesNoMark();
        codes();
        Check.end();
    }

    private static RangedPool ranged() {
        RangedPool pool = Check.richPool(1, 10, 0);
        for (int i = 0; i < RANGES.length; i++) {
            pool.mint(i, RANGES[i][0], RANGES[i][1], 40000 * (i + 1));
        }
        pool.advance(3);
        return pool;
    }

    private static void asSwap() {
        for (int amount : new int[] {1, 2, 500, 5000, 20000, 1000000}) {
            for (int limit = 1; limit <= 24; limit++) {
                compare(true, amount, -limit);
                compare(true, -amount, -limit);
                compare(false, amount, limit);
                compare(false, -amount, limit);
            }
        }
    }

    private static void compare(boolean down, int amount, int limit) {
        RangedPool pool = ranged();
        String before = Check.state(pool, RANGES);
        long quoted = pool.quote(down, amount, limit);
        String call = "quote(" + down + ", " + amount + ", " + limit + ")";
        Check.same(call, Check.state(pool, RANGES), before);
        Check.due(call, quoted, pool.swap(3, down, amount, limit));
        Check.yes(call + " is no code", quoted >= 0);
    }

    private static void withoutMoney() {
        RangedPool pool = new RangedPool(1, 0);
        pool.open(0);
        pool.fund(0, 0, 1000000);
        pool.fund(0, 1, 1000000);
        pool.mint(0, -24, 24, 65536);
        Check.due("down", pool.quote(true, 1000, -24), Check.pair(1000, 984));
        Check.due("out", pool.quote(true, -1000, -24), Check.pair(1016, 1000));
    }

    private static void leavesNoFee() {
        RangedPool pool = ranged();
        pool.quote(true, 20000, -24);
        pool.quote(false, 20000, 24);
        pool.flash(3, 0, 0);
        for (int i = 0; i < RANGES.length; i++) {
            pool.burn(i, RANGES[i][0], RANGES[i][1], 0);
            Check.due("owed 0", pool.lot(i, RANGES[i][0], RANGES[i][1], 1), 0);
            Check.due("owed 1", pool.lot(i, RANGES[i][0], RANGES[i][1], 2), 0);
        }
    }

    private static void makesNoMark() {
        RangedPool pool = ranged();
        for (int i = 0; i < 20; i++) {
            pool.advance(1);
            pool.quote(true, 100, -24);
        }
        Check.due("the mark of opening is still there", pool.observe(23), 0);
    }

    private static void codes() {
        Check.due("CLOSED", new RangedPool(1, 3).quote(true, 0, 99), RangedPool.CLOSED);
        RangedPool pool = ranged();
        for (int amount : new int[] {0, 1000001, -1000001, Integer.MIN_VALUE, Integer.MAX_VALUE}) {
            Check.due("amount " + amount, pool.quote(true, amount, -24), RangedPool.BAD);
        }
        for (int limit : new int[] {-25, 25, Integer.MIN_VALUE, Integer.MAX_VALUE, 0}) {
            Check.due("down to " + limit, pool.quote(true, 5, limit), RangedPool.BAD);
            Check.due("up to " + limit, pool.quote(false, 5, limit), RangedPool.BAD);
        }
        Check.due("down to 1", pool.quote(true, 5, 1), RangedPool.BAD);
        Check.due("up to -1", pool.quote(false, 5, -1), RangedPool.BAD);
    }
}
