/** The terms: owners, lots, in range, depth, marked. */
public final class TermsLotsTest {
    private static final int[] SPACINGS = {1, 2, 3, 4, 6, 8};

    public static void main(String[] args) {
        owners();
        reserves();
        loBelowHi();
        divisibleBySpacing();
        endsOfRanges();
        tenLots();
        oneForAnOwnerAndARange();
        liquidityOfAll();
        gone();
        goneMakesRoom();
        stillOwed();
        inRange();
        inRangeBelowItsPrice();
        depth();
        marked();
        Check.end();
    }

    private static void owners() {
        Check.sentence("OWNERS 0 .. 3 have a WALLET with so many of each token");
        Pool pool = Check.richPool(1, 3, 0);
        for (int owner = 0; owner < 4; owner++) {
            Check.due("mint of " + owner, pool.mint(owner, -1, 1, 1000), Check.pair(25, 25));
            Check.due("swap of " + owner, pool.swap(owner, true, 1, -1), Check.pair(1, 0));
            Check.due("flash of " + owner, pool.flash(owner, 1, 1), Check.pair(1, 1));
            Check.due("burn of " + owner, pool.burn(owner, -1, 1, 1000), Check.pair(24, 24));
            Check.yes("collect of " + owner, pool.collect(owner, -1, 1) >= Check.pair(24, 24));
        }
        for (int owner : Check.NO_OWNERS) {
            Check.due("mint of " + owner, pool.mint(owner, -1, 1, 1000), RangedPool.BAD);
            Check.due("swap of " + owner, pool.swap(owner, true, 1, -1), RangedPool.BAD);
            Check.due("flash of " + owner, pool.flash(owner, 0, 0), RangedPool.BAD);
            Check.due("burn of " + owner, pool.burn(owner, -1, 1, 0), RangedPool.NO_LOT);
            Check.due("collect of " + owner, pool.collect(owner, -1, 1), RangedPool.NO_LOT);
            Check.due("lot of " + owner, pool.lot(owner, -1, 1, 0), RangedPool.NO_LOT);
            Check.due("wallet of " + owner, pool.wallet(owner, 0), RangedPool.BAD);
            Check.no("fund of " + owner, pool.fund(owner, 0, 1));
        }
    }

    private static void reserves() {
        Check.sentence("the pool has a RESERVE of each");
        Pool pool = Check.richPool(1, 3, 0);
        pool.mint(0, 1, 2, 1000);
        Check.due("token 0", pool.reserve(0), 24);
        Check.due("token 1", pool.reserve(1), 0);
        pool.mint(1, -1, 0, 1000);
        Check.due("token 0", pool.reserve(0), 24);
        Check.due("token 1", pool.reserve(1), 25);
    }

    private static void loBelowHi() {
        Check.sentence("a range lo < hi of steps");
        for (int spacing : SPACINGS) {
            Pool pool = Check.richPool(spacing, 3, 0);
            for (int step = -24; step <= 24; step += spacing) {
                Check.due("lo is hi, " + step, pool.mint(0, step, step, 1), RangedPool.BAD);
            }
            Check.due("lo is above hi", pool.mint(0, spacing, 0, 1), RangedPool.BAD);
            Check.due("lo is far above hi", pool.mint(0, 24, -24, 1), RangedPool.BAD);
            Check.yes("lo is just below hi", pool.mint(0, 0, spacing, 1) > 0);
            Check.yes("lo is far below hi", pool.mint(0, -24, 24, 1) > 0);
        }
    }

    private static void divisibleBySpacing() {
        Check.sentence("both divisible by SPACING");
        for (int spacing : SPACINGS) {
            for (int end = -23; end <= 23; end++) {
                Pool pool = Check.richPool(spacing, 3, 0);
                boolean divisible = Math.abs(end) % spacing == 0;
                String what = "SPACING " + spacing + ", " + end;
                Check.due(what + " as lo", Math.min(0, pool.mint(0, end, 24, 1)), divisible ? 0 : RangedPool.BAD);
                Check.due(what + " as hi", Math.min(0, pool.mint(0, -24, end, 1)), divisible ? 0 : RangedPool.BAD);
                Check.due(what + " as both", Math.min(0, pool.mint(0, end, end + 1, 1)), spacing == 1 ? 0 : RangedPool.BAD);
            }
        }
    }

    private static void endsOfRanges() {
        Check.sentence("a range lo < hi of steps", "the lowest and the highest");
        for (int spacing : SPACINGS) {
            Pool pool = Check.richPool(spacing, 3, 0);
            Check.due("below the lowest", pool.mint(0, -24 - spacing, 0, 1), RangedPool.BAD);
            Check.due("all below the lowest", pool.mint(0, -24 - spacing, -24, 1), RangedPool.BAD);
            Check.due("above the highest", pool.mint(0, 0, 24 + spacing, 1), RangedPool.BAD);
            Check.due("all above the highest", pool.mint(0, 24, 24 + spacing, 1), RangedPool.BAD);
            Check.yes("from the lowest", pool.mint(0, -24, 0, 1) > 0);
            Check.yes("up to the highest", pool.mint(0, 0, 24, 1) > 0);
        }
    }

    private static void tenLots() {
        Check.sentence("There are at most 10 lots");
        Pool pool = Check.richPool(1, 3, 0);
        for (int i = 1; i <= 10; i++) {
            Check.due("lot " + i, pool.mint(0, -i, i, 1), Check.pair(1, 1));
        }
        Check.refused("lot 11", pool, RangedPool.FULL, x -> x.mint(0, -11, 11, 1));
        for (int i = 1; i <= 10; i++) {
            Check.due("lot " + i, pool.lot(0, -i, i, 0), 1);
        }
    }

    private static void oneForAnOwnerAndARange() {
        Check.sentence("one for an owner and a range");
        Pool pool = Check.richPool(1, 3, 0);
        for (int i = 0; i < 30; i++) {
            pool.mint(0, -1, 1, 2);
        }
        Check.due("one lot for 30 mints", pool.lot(0, -1, 1, 0), 60);
        for (int i = 1; i < 10; i++) {
            Check.yes("lot " + (i + 1), pool.mint(i % 4, -i, i, 1) > 0);
        }
        Check.due("another owner's lot", pool.lot(1, -1, 1, 0), 1);
        Check.due("is not the first's", pool.lot(0, -1, 1, 0), 60);
        Check.due("lot 11", pool.mint(2, -1, 1, 1), RangedPool.FULL);
        Check.yes("lot 1 again", pool.mint(0, -1, 1, 1) > 0);
        Check.yes("lot 10 again", pool.mint(1, -9, 9, 1) > 0);
    }

    private static void liquidityOfAll() {
        Check.sentence("the liquidity of all together is at most 1000000");
        Pool pool = Check.richPool(1, 3, 0);
        for (int i = 1; i <= 10; i++) {
            Check.yes("a tenth", pool.mint(i % 4, 2 * i - 2, 2 * i, 100000) > 0);
        }
        Check.refused("1 more, in range", pool, RangedPool.FULL, x -> x.mint(1, 0, 2, 1));
        Check.refused("1 more, out of range", pool, RangedPool.FULL, x -> x.mint(2, 18, 20, 1));
        pool.burn(2, 18, 20, 100000);
        Check.due("what is owed is no liquidity", pool.mint(1, 0, 2, 100001), RangedPool.FULL);
        Check.yes("all that was burned", pool.mint(1, 0, 2, 100000) > 0);
        pool = Check.richPool(1, 3, 0);
        Check.yes("all at once", pool.mint(0, -24, 24, 1000000) > 0);
    }

    private static void gone() {
        Check.sentence("A lot is gone when it has no liquidity and is owed nothing.");
        Pool pool = Check.richPool(1, 3, 0);
        pool.mint(0, -1, 1, 1000);
        Check.due("liquidity, owed nothing", pool.collect(0, -1, 1), 0);
        Check.due("is there", pool.lot(0, -1, 1, 0), 1000);
        pool.burn(0, -1, 1, 1000);
        Check.due("no liquidity, owed: is there", pool.lot(0, -1, 1, 1), 24);
        Check.due("settled only", pool.burn(0, -1, 1, 0), 0);
        Check.due("is there", pool.lot(0, -1, 1, 2), 24);
        Check.due("collected", pool.collect(0, -1, 1), Check.pair(24, 24));
        Check.refused("gone for lot", pool, RangedPool.NO_LOT, x -> x.lot(0, -1, 1, 0));
        Check.refused("gone for burn", pool, RangedPool.NO_LOT, x -> x.burn(0, -1, 1, 0));
        Check.refused("gone for collect", pool, RangedPool.NO_LOT, x -> x.collect(0, -1, 1));
    }

    private static void goneMakesRoom() {
        Check.sentence("A lot is gone when it has no liquidity and is owed nothing.", "another one in its place");
        for (int which = 1; which <= 10; which++) {
            Pool pool = Check.richPool(1, 3, 0);
            for (int i = 1; i <= 10; i++) {
                pool.mint(0, -i, i, 5);
            }
            int end = which;
            pool.burn(0, -end, end, 5);
            pool.collect(0, -end, end);
            Check.due("gone", pool.lot(0, -end, end, 0), RangedPool.NO_LOT);
            Check.yes("a new one", pool.mint(3, -24, 24, 7) > 0);
            Check.due("the new one", pool.lot(3, -24, 24, 0), 7);
            Check.due("no room for the old one", pool.mint(0, -end, end, 5), RangedPool.FULL);
            for (int i = 1; i <= 10; i++) {
                Check.due("lot " + i, pool.lot(0, -i, i, 0), i == end ? RangedPool.NO_LOT : 5);
            }
        }
    }

    private static void stillOwed() {
        Check.sentence("A lot is gone when it has no liquidity and is owed nothing.", "mint adds to one that is owed something");
        Pool pool = Check.richPool(1, 3, 0);
        pool.mint(0, -1, 1, 1000);
        pool.burn(0, -1, 1, 1000);
        pool.mint(0, -1, 1, 2000);
        Check.due("liquidity", pool.lot(0, -1, 1, 0), 2000);
        Check.owed("owed from before", pool, new int[] {0, -1, 1}, 24, 24);
    }

    private static void inRange() {
        Check.sentence("A lot is IN RANGE when lo <= c < hi.");
        for (int step = -24; step <= 24; step++) {
            Pool pool = Check.richPool(1, 3, step);
            pool.mint(0, -2, 2, 1000);
            Check.due("c is " + step, pool.depth(), step >= -2 && step < 2 ? 1000 : 0);
        }
    }

    private static void inRangeBelowItsPrice() {
        Check.sentence("A lot is IN RANGE when lo <= c < hi.", "by c, not by p");
        Pool pool = Check.richPool(1, 0, 1);
        pool.mint(0, 0, 2, 1000);
        pool.mint(1, -2, 0, 500);
        pool.swap(0, true, 1000000, 0);
        Check.at("crossed downwards", pool, 65536, -1);
        Check.due("the lower is in range", pool.depth(), 500);
        pool.swap(0, false, 1, 1);
        Check.due("the upper is in range", pool.depth(), 1000);
    }

    private static void depth() {
        Check.sentence("DEPTH is the sum of the liquidity of the lots that are in range.");
        Pool pool = Check.richPool(1, 3, 0);
        int sum = 0;
        for (int i = 1; i <= 10; i++) {
            pool.mint(i % 4, i % 2 == 0 ? -i : 1 - i, i, i);
            sum += i;
            Check.due(i + " lots", pool.depth(), sum);
        }
        for (int i = 1; i <= 10; i++) {
            pool.burn(i % 4, i % 2 == 0 ? -i : 1 - i, i, i);
            sum -= i;
            Check.due(i + " burned", pool.depth(), sum);
        }
    }

    /** A swap to a limit stops below the step only when it is marked. */
    private static void marked() {
        Check.sentence("A step is MARKED when it is lo or hi of a lot with liquidity.");
        Pool pool = Check.richPool(1, 0, 0);
        Check.due("no lot", stepAfter(pool, -3), -3);
        pool.mint(0, -3, 5, 1000);
        Check.due("lo", stepAfter(pool, -3), -4);
        Check.due("above lo", stepAfter(pool, -2), -2);
        Check.due("below lo", stepAfter(pool, -4), -4);
        pool.mint(1, -7, -5, 1000);
        Check.due("hi", stepAfter(pool, -5), -6);
        Check.due("lo of another", stepAfter(pool, -7), -8);
        pool.burn(1, -7, -5, 999);
        Check.due("1 is liquidity", stepAfter(pool, -5), -6);
        pool.burn(1, -7, -5, 1);
        Check.due("still there", pool.lot(1, -7, -5, 0), 0);
        Check.due("hi without liquidity", stepAfter(pool, -5), -5);
        Check.due("lo without liquidity", stepAfter(pool, -7), -7);
        Check.due("the other lot", stepAfter(pool, -3), -4);
    }

    private static int stepAfter(Pool pool, int limit) {
        Pool other = pool.again();
        other.swap(2, true, 1000000, limit);
        return other.step();
    }
}
