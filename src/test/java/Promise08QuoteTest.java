/** Promise 8: quote. */
public final class Promise08QuoteTest {
    private static final int[][] RANGES = {{-6, 6}, {-2, 1}, {1, 4}};

    public static void main(String[] args) {
        asSwap();
        forAnOwnerWithEnough();
        nothingIsChanged();
        closed();
        badAmount();
        badLimit();
        limitAtThePrice();
        firstCode();
        Check.end();
    }

    private static Pool ranged() {
        Pool pool = Check.richPool(1, 10, 0);
        for (int i = 0; i < RANGES.length; i++) {
            pool.mint(i, RANGES[i][0], RANGES[i][1], 40000 * (i + 1));
        }
        pool.flash(3, 1000, 1000);
        pool.advance(3);
        return pool;
    }

    private static void asSwap() {
        Check.sentence("What swap would answer for an owner with enough");
        for (int amount : new int[] {1, 2, 500, 5000, 20000, 1000000}) {
            for (int limit = 1; limit <= 24; limit++) {
                compare(true, amount, -limit);
                compare(true, -amount, -limit);
                compare(false, amount, limit);
                compare(false, -amount, limit);
            }
        }
    }

    private static void compare(boolean down, int amount, int limit) {
        Pool pool = ranged();
        long quoted = pool.quote(down, amount, limit);
        String call = "quote(" + down + ", " + amount + ", " + limit + ")";
        Check.due(call, quoted, pool.swap(3, down, amount, limit));
        Check.yes(call + " is no code", quoted >= 0);
    }

    private static void forAnOwnerWithEnough() {
        Check.sentence("for an owner with enough", "there need be none");
        Pool pool = Check.openPool(1, 0, 0);
        pool.fund(0, 0, 29299);
        pool.fund(0, 1, 29313);
        pool.mint(0, -24, 24, 65536);
        for (int owner = 0; owner < 4; owner++) {
            Check.due("wallet 0", pool.wallet(owner, 0), 0);
            Check.due("wallet 1", pool.wallet(owner, 1), 0);
        }
        Check.due("down, in", pool.quote(true, 1000, -24), Check.pair(1000, 984));
        Check.due("down, out", pool.quote(true, -1000, -24), Check.pair(1016, 1000));
        Check.due("up, in", pool.quote(false, 1000, 24), Check.pair(1000, 984));
        Check.due("up, out", pool.quote(false, -1000, 24), Check.pair(1016, 1000));
        Check.due("no depth, no cost", Check.openPool(1, 100, 0).quote(true, 1000000, -24), 0);
    }

    private static void nothingIsChanged() {
        Check.sentence("nothing is changed");
        Pool pool = ranged();
        for (int amount : new int[] {1, 20000, 1000000, -1, -20000, -1000000}) {
            long down = pool.quote(true, amount, -24);
            Check.unchanged("down " + amount, pool, down, x -> x.quote(true, amount, -24));
            long up = pool.quote(false, amount, 24);
            Check.unchanged("up " + amount, pool, up, x -> x.quote(false, amount, 24));
        }
        Check.yes("a swap that is done later", pool.swap(3, true, 1, -24) > 0);
        Check.settled("no fee but of the flash", pool, new int[] {0, -6, 6}, 3, 3);
    }

    private static void closed() {
        Check.sentence("CLOSED: the pool is not open.", "quote");
        Check.refused("down", new Pool(1, 3), RangedPool.CLOSED, x -> x.quote(true, 1, -24));
        Check.refused("up", new Pool(1, 3), RangedPool.CLOSED, x -> x.quote(false, 1, 24));
    }

    private static void badAmount() {
        Check.sentence("BAD as for swap.", "quote: the amount");
        Pool pool = ranged();
        for (int amount : new int[] {0, 1000001, -1000001, Integer.MIN_VALUE, Integer.MAX_VALUE}) {
            Check.refused("down " + amount, pool, RangedPool.BAD, x -> x.quote(true, amount, -24));
            Check.refused("up " + amount, pool, RangedPool.BAD, x -> x.quote(false, amount, 24));
        }
        for (int amount : new int[] {1, 1000000, -1, -1000000}) {
            Check.yes("down " + amount, pool.quote(true, amount, -24) > 0);
            Check.yes("up " + amount, pool.quote(false, amount, 24) > 0);
        }
    }

    private static void badLimit() {
        Check.sentence("BAD as for swap.", "quote: the limit");
        Pool pool = ranged();
        for (int limit : Check.NO_STEPS) {
            Check.refused("down to " + limit, pool, RangedPool.BAD, x -> x.quote(true, 5, limit));
            Check.refused("up to " + limit, pool, RangedPool.BAD, x -> x.quote(false, 5, limit));
        }
        Check.yes("down to the lowest", pool.quote(true, 5, -24) > 0);
        Check.yes("up to the highest", pool.quote(false, 5, 24) > 0);
        Check.due("not divisible by SPACING", Check.openPool(8, 3, 0).quote(true, 5, -3), 0);
    }

    private static void limitAtThePrice() {
        Check.sentence("BAD as for swap.", "quote: the limit's price");
        Pool pool = ranged();
        Check.refused("down to the price", pool, RangedPool.BAD, x -> x.quote(true, 5, 0));
        Check.refused("down to a higher one", pool, RangedPool.BAD, x -> x.quote(true, 5, 1));
        Check.refused("up to the price", pool, RangedPool.BAD, x -> x.quote(false, 5, 0));
        Check.refused("up to a lower one", pool, RangedPool.BAD, x -> x.quote(false, 5, -1));
        Check.yes("down to the step below", pool.quote(true, 5, -1) > 0);
        Check.yes("up to the step above", pool.quote(false, 5, 1) > 0);
        pool.swap(3, false, 100, 24);
        Check.due("the price is above P(0)", pool.step(), 0);
        Check.yes("down to 0", pool.quote(true, 5, 0) > 0);
        Check.refused("up to 0", pool, RangedPool.BAD, x -> x.quote(false, 5, 0));
        Pool crossed = Check.richPool(1, 0, 1);
        crossed.mint(0, 0, 2, 1000);
        crossed.swap(1, true, 1000000, 0);
        Check.at("crossed downwards", crossed, 65536, -1);
        Check.refused("up to the price, a step above", crossed, RangedPool.BAD, x -> x.quote(false, 5, 0));
        Check.due("down to the step, a price below", crossed.quote(true, 5, -1), 0);
    }

    private static void firstCode() {
        Check.sentence("Where several codes would do, the first that its comment names is answered.", "quote");
        Check.refused("CLOSED before BAD", new Pool(1, 3), RangedPool.CLOSED, x -> x.quote(true, 0, 99));
    }
}
