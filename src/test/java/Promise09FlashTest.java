/** Promise 9: flash. */
public final class Promise09FlashTest {
    public static void main(String[] args) {
        fees();
        sharedByDepth();
        noMark();
        codes();
        poor();
        Check.end();
    }

    private static void fees() {
        RangedPool pool = Check.richPool(1, 3, 0);
        pool.mint(0, -24, 24, 1000000);
        long zero = pool.reserve(0);
        long one = pool.reserve(1);
        Check.due("1 and 333: 1 each", pool.flash(1, 1, 333), Check.pair(1, 1));
        Check.due("334 and 1000", pool.flash(1, 334, 1000), Check.pair(2, 3));
        Check.due("nothing", pool.flash(1, 0, 0), 0);
        Check.due("one token", pool.flash(1, 0, 100000), Check.pair(0, 300));
        Check.due("wallet 0", pool.wallet(1, 0), 1000000000 - 3);
        Check.due("wallet 1", pool.wallet(1, 1), 1000000000 - 304);
        Check.due("reserve 0", pool.reserve(0), zero + 3);
        Check.due("reserve 1", pool.reserve(1), one + 304);
        Check.due("price", pool.price(), 65536);
        pool.burn(0, -24, 24, 0);
        Check.due("owed 0", pool.lot(0, -24, 24, 1), 2);
        Check.due("owed 1", pool.lot(0, -24, 24, 2), 303);
        RangedPool free = Check.richPool(1, 0, 0);
        free.mint(0, -24, 24, 1000000);
        Check.due("FEE 0", free.flash(1, 1000, 1000), 0);
    }

    private static void sharedByDepth() {
        RangedPool pool = Check.richPool(1, 100, 0);
        pool.mint(0, -1, 1, 65536);
        pool.mint(1, 0, 2, 65536);
        pool.mint(2, 1, 2, 65536);
        pool.mint(3, -1, 0, 65536);
        pool.flash(0, 1000, 600);
        pool.burn(0, -1, 1, 0);
        pool.burn(1, 0, 2, 0);
        pool.burn(2, 1, 2, 0);
        pool.burn(3, -1, 0, 0);
        Check.due("half", pool.lot(0, -1, 1, 1), 50);
        Check.due("half", pool.lot(0, -1, 1, 2), 30);
        Check.due("half", pool.lot(1, 0, 2, 1), 50);
        Check.due("half", pool.lot(1, 0, 2, 2), 30);
        Check.due("not in range", pool.lot(2, 1, 2, 1) + pool.lot(2, 1, 2, 2), 0);
        Check.due("not in range", pool.lot(3, -1, 0, 1) + pool.lot(3, -1, 0, 2), 0);
    }

    private static void noMark() {
        RangedPool pool = Check.richPool(1, 3, 0);
        pool.mint(0, -24, 24, 1000);
        for (int i = 0; i < 20; i++) {
            pool.advance(1);
            pool.flash(0, 1, 1);
            pool.collect(0, -24, 24);
        }
        Check.due("the mark of opening is still there", pool.observe(20), 0);
    }

    private static void codes() {
        Check.due("CLOSED", new RangedPool(1, 3).flash(9, -1, -1), RangedPool.CLOSED);
        RangedPool pool = Check.richPool(1, 3, 0);
        Check.due("no depth", pool.flash(0, 0, 0), RangedPool.BAD);
        pool.mint(0, 1, 2, 1000);
        Check.due("no depth here", pool.flash(0, 1, 0), RangedPool.BAD);
        pool.mint(0, -1, 1, 1000);
        String before = Check.state(pool, new int[] {-1, 1});
        for (int owner : new int[] {-1, 4, Integer.MIN_VALUE, Integer.MAX_VALUE}) {
            Check.due("owner " + owner, pool.flash(owner, 0, 0), RangedPool.BAD);
        }
        for (int amount : new int[] {-1, 1000001, Integer.MIN_VALUE, Integer.MAX_VALUE}) {
            Check.due("zero " + amount, pool.flash(0, amount, 0), RangedPool.BAD);
            Check.due("one " + amount, pool.flash(0, 0, amount), RangedPool.BAD);
        }
        int zero = (int) pool.reserve(0);
        int one = (int) pool.reserve(1);
        Check.due("more than reserve 0", pool.flash(0, zero + 1, 0), RangedPool.BAD);
        Check.due("more than reserve 1", pool.flash(0, 0, one + 1), RangedPool.BAD);
        Check.same("codes", Check.state(pool, new int[] {-1, 1}), before);
        Check.due("all of the reserves", pool.flash(0, zero, one), Check.pair(1, 1));
        theMost();
    }

    private static void theMost() {
        RangedPool pool = Check.richPool(1, 100, -24);
        pool.mint(0, -24, 24, 1000000);
        Check.due("1000000", pool.flash(0, 1000000, 0), Check.pair(100000, 0));
        Check.due("1000001, which the reserve has", pool.flash(0, 1000001, 0), RangedPool.BAD);
    }

    private static void poor() {
        RangedPool pool = new RangedPool(1, 100);
        pool.open(0);
        pool.fund(0, 0, 1000000);
        pool.fund(0, 1, 1000000);
        pool.mint(0, -24, 24, 100000);
        pool.fund(1, 0, 10);
        pool.fund(1, 1, 19);
        String before = Check.state(pool, new int[] {-24, 24});
        Check.due("20 of token 1 are needed", pool.flash(1, 100, 200), RangedPool.POOR);
        Check.due("11 of token 0 are needed", pool.flash(1, 101, 190), RangedPool.POOR);
        Check.same("POOR", Check.state(pool, new int[] {-24, 24}), before);
        Check.due("just enough", pool.flash(1, 100, 190), Check.pair(10, 19));
        Check.due("nothing is left", pool.wallet(1, 0) + pool.wallet(1, 1), 0);
        Check.due("nothing needs nothing", pool.flash(2, 0, 0), 0);
        Check.due("BAD before POOR", pool.flash(2, 1, -1), RangedPool.BAD);
    }
}
