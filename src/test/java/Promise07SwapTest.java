/** Promise 7: swap. */
public final class Promise07SwapTest {
    public static void main(String[] args) {
        paysIn();
        takesOut();
        feeOfTheRest();
        justEnough();
        atMostWhatIsWanted();
        crosses();
        overAGap();
        stopsAtTheLimit();
        withoutLiquidity();
        belowTheLowestStep();
        feesByRange();
        codes();
        poor();
        Check.end();
    }

    private static RangedPool wide(int fee) {
        RangedPool pool = Check.richPool(1, fee, 0);
        pool.mint(0, -24, 24, 65536);
        return pool;
    }

    private static void paysIn() {
        RangedPool pool = wide(0);
        long zero = pool.reserve(0);
        long one = pool.reserve(1);
        Check.due("down", pool.swap(1, true, 1000, -24), Check.pair(1000, 984));
        Check.due("65536 * 65536 / 66536, rounded up", pool.price(), 64552);
        Check.due("step", pool.step(), -1);
        Check.due("wallet 0", pool.wallet(1, 0), 1000000000 - 1000);
        Check.due("wallet 1", pool.wallet(1, 1), 1000000000 + 984);
        Check.due("reserve 0", pool.reserve(0), zero + 1000);
        Check.due("reserve 1", pool.reserve(1), one - 984);
        pool = wide(0);
        Check.due("up", pool.swap(1, false, 1000, 24), Check.pair(1000, 984));
        Check.due("65536 + 1000", pool.price(), 66536);
        Check.due("step", pool.step(), 0);
        Check.due("wallet 0", pool.wallet(1, 0), 1000000000 + 984);
        Check.due("wallet 1", pool.wallet(1, 1), 1000000000 - 1000);
    }

    private static void takesOut() {
        RangedPool pool = wide(100);
        Check.due("down: 1000 out", pool.swap(1, true, -1000, -24), Check.pair(1016 + 113, 1000));
        Check.due("65536 - 1000", pool.price(), 64536);
        pool.burn(0, -24, 24, 0);
        Check.due("the fee, 1016 * 100 / 900 rounded up", pool.lot(0, -24, 24, 1), 113);
        pool = wide(100);
        Check.due("up: 1000 out", pool.swap(1, false, -1000, 24), Check.pair(1016 + 113, 1000));
        Check.due("65536 * 65536 / 64536, rounded up", pool.price(), 66552);
        pool = Check.richPool(1, 0, 0);
        pool.mint(0, -24, 24, 1000);
        Check.due("at most so much goes out", pool.swap(1, true, -1, -24), Check.pair(2, 1));
        Check.due("65536 - 65.536 rounded up", pool.price(), 65470);
    }

    /** When the target is not reached, all that was not needed is the fee. */
    private static void feeOfTheRest() {
        RangedPool pool = wide(0);
        pool.swap(1, true, 1000, -24);
        pool.burn(0, -24, 24, 0);
        Check.due("999 of 1000 were needed, although FEE is 0", pool.lot(0, -24, 24, 1), 1);
        pool = wide(3);
        Check.due("too little to move the price", pool.swap(1, true, 1, -24), Check.pair(1, 0));
        Check.due("price", pool.price(), 65536);
        Check.due("step", pool.step(), 0);
        pool.burn(0, -24, 24, 0);
        Check.due("is all fee", pool.lot(0, -24, 24, 1), 1);
        Check.due("up: is all fee", pool.swap(1, false, 1, 24), Check.pair(1, 0));
        pool.burn(0, -24, 24, 0);
        Check.due("up", pool.lot(0, -24, 24, 2), 1);
    }

    /** Between steps -1 and 1 a liquidity of 30000 holds 731 of token 1 below step 0 and of token 0 above it. */
    private static RangedPool narrow() {
        RangedPool pool = Check.richPool(1, 0, 0);
        pool.mint(0, -1, 1, 30000);
        return pool;
    }

    private static void justEnough() {
        dueAt(narrow(), true, -731, 751, 731, 63937, -2);
        dueAt(narrow(), true, -730, 749, 730, 63941, -1);
        dueAt(narrow(), false, -731, 750, 731, 67174, 1);
        dueAt(narrow(), false, -730, 749, 730, 67171, 0);
        dueAt(narrow(), true, 751, 751, 731, 63937, -2);
        dueAt(narrow(), true, 750, 750, 731, 63938, -1);
        dueAt(narrow(), false, 750, 750, 731, 67174, 1);
        dueAt(narrow(), false, 749, 749, 730, 67172, 0);
    }

    private static void dueAt(RangedPool pool, boolean down, int amount, long paid, long given, int price, int step) {
        String call = "swap " + (down ? "down " : "up ") + amount;
        Check.due(call, pool.swap(1, down, amount, down ? -24 : 24), Check.pair(paid, given));
        Check.due(call + ": price", pool.price(), price);
        Check.due(call + ": step", pool.step(), step);
    }

    private static void atMostWhatIsWanted() {
        RangedPool pool = Check.richPool(1, 0, 0);
        pool.mint(0, -1, 1, 1000000);
        Check.due("a price down is worth 15", pool.quote(true, -1, -24), Check.pair(16, 1));
        Check.due("a price up is worth 15", pool.quote(false, -1, 24), Check.pair(16, 1));
        Check.due("1 less than there is", pool.swap(1, true, -24397, -24), Check.pair(25009, 24397));
        Check.due("brings the price to the step by its rounding", pool.price(), 63937);
        Check.due("and over it", pool.step(), -2);
    }

    private static void overAGap() {
        RangedPool pool = gap(0);
        Check.due("into the lower lot", pool.swap(1, true, -100, -24), Check.pair(111, 100));
        Check.due("price", pool.price(), 62277);
        Check.due("step", pool.step(), -3);
        pool = gap(0);
        Check.due("into the upper lot", pool.swap(1, false, 100, 24), Check.pair(100, 90));
        Check.due("price", pool.price(), 68953);
        Check.due("step", pool.step(), 2);
        pool = gap(3);
        Check.due("from the upper through the lower", pool.swap(1, true, -5000, -24), Check.pair(5010, 4728));
        Check.due("price", pool.price(), 36223);
        pool = gap(-3);
        Check.due("from the lower into the upper", pool.swap(1, false, 5000, 24), Check.pair(5000, 4721));
        Check.due("price", pool.price(), 72331);
        Check.due("step", pool.step(), 3);
    }

    private static RangedPool gap(int step) {
        RangedPool pool = Check.richPool(1, 0, step);
        pool.mint(0, -4, -2, 65536);
        pool.mint(0, 2, 4, 65536);
        return pool;
    }

    private static void crosses() {
        RangedPool pool = Check.richPool(1, 0, 0);
        pool.mint(0, -1, 1, 65536);
        pool.mint(0, -2, -1, 131072);
        pool.mint(0, 1, 2, 131072);
        Check.due("down over -1", pool.swap(1, true, -1599 - 2000, -24), Check.pair(1639 + 2135, 3599));
        Check.due("63937 - 1000", pool.price(), 62937);
        Check.due("step", pool.step(), -2);
        Check.due("depth", pool.depth(), 131072);
        Check.due("just to -1", pool.swap(1, false, 2000, -1), Check.pair(2000, 2134));
        Check.due("price", pool.price(), 63937);
        Check.due("upwards the step is crossed", pool.step(), -1);
        Check.due("depth", pool.depth(), 65536);
        Check.due("downwards it is crossed again for nothing", pool.swap(1, true, 1, -24), Check.pair(1, 0));
        Check.due("price", pool.price(), 63937);
        Check.due("step", pool.step(), -2);
        Check.due("depth", pool.depth(), 131072);
        Check.due("up to 1", pool.swap(1, false, 1638 + 1599, 24), Check.pair(3237, 3237));
        Check.due("price", pool.price(), 67174);
        Check.due("step", pool.step(), 1);
    }

    private static void stopsAtTheLimit() {
        RangedPool pool = wide(10);
        Check.due("to -1", pool.swap(1, true, 1000000, -1), Check.pair(1639 + 17, 1599));
        Check.due("price", pool.price(), 63937);
        Check.due("a limit that is not marked is not crossed", pool.step(), -1);
        Check.due("to 1", pool.swap(1, false, -1000000, 1), Check.pair(3237 + 33, 3237));
        Check.due("price", pool.price(), 67174);
        Check.due("step", pool.step(), 1);
    }

    private static void withoutLiquidity() {
        RangedPool pool = new RangedPool(1, 100);
        pool.open(0);
        Check.due("costs nothing", pool.swap(0, true, 1000000, -24), 0);
        Check.due("price", pool.price(), 36223);
        Check.due("step", pool.step(), -24);
        Check.due("nor upwards", pool.swap(0, false, -1000000, 24), 0);
        Check.due("price", pool.price(), 118522);
        Check.due("step", pool.step(), 24);
    }

    private static void belowTheLowestStep() {
        RangedPool pool = wide(0);
        pool.swap(1, true, -1000000, -24);
        Check.due("price", pool.price(), 36223);
        Check.due("step", pool.step(), -25);
        Check.due("depth", pool.depth(), 0);
        Check.due("no limit is below", pool.swap(1, true, 1, -24), RangedPool.BAD);
        Check.due("up again", pool.swap(1, false, 1, 24), Check.pair(1, 3));
        Check.due("price", pool.price(), 36224);
        Check.due("step", pool.step(), -24);
        Check.due("depth", pool.depth(), 65536);
        pool.swap(1, false, -1000000, 24);
        Check.due("price", pool.price(), 118522);
        Check.due("step", pool.step(), 24);
        Check.due("depth", pool.depth(), 0);
    }

    private static void feesByRange() {
        RangedPool pool = Check.richPool(1, 100, 0);
        pool.mint(0, -1, 1, 30000);
        pool.mint(1, -1, 1, 10000);
        pool.mint(2, -2, -1, 10000);
        pool.mint(3, 1, 2, 10000);
        pool.swap(0, true, 1000000, -24);
        for (int owner = 0; owner < 4; owner++) {
            pool.burn(owner, owner == 2 ? -2 : owner == 3 ? 1 : -1, owner == 2 ? -1 : owner == 3 ? 2 : 1, 0);
        }
        Check.due("112 in range: 3 quarters, as growth is rounded down", pool.lot(0, -1, 1, 1), 83);
        Check.due("a quarter", pool.lot(1, -1, 1, 1), 27);
        Check.due("29 beyond -1", pool.lot(2, -2, -1, 1), 28);
        Check.due("nothing above", pool.lot(3, 1, 2, 1), 0);
        Check.due("nothing of the other token", pool.lot(0, -1, 1, 2), 0);
    }

    private static void codes() {
        RangedPool closed = new RangedPool(1, 3);
        Check.due("CLOSED", closed.swap(9, true, 0, 99), RangedPool.CLOSED);
        RangedPool pool = wide(3);
        pool.advance(1);
        String before = Check.state(pool, new int[] {-24, 24});
        for (int owner : new int[] {-1, 4, Integer.MIN_VALUE, Integer.MAX_VALUE}) {
            Check.due("owner " + owner, pool.swap(owner, true, 5, -24), RangedPool.BAD);
        }
        for (int amount : new int[] {0, 1000001, -1000001, Integer.MIN_VALUE, Integer.MAX_VALUE}) {
            Check.due("amount " + amount, pool.swap(1, true, amount, -24), RangedPool.BAD);
        }
        for (int limit : new int[] {-25, 25, Integer.MIN_VALUE, Integer.MAX_VALUE, 0}) {
            Check.due("down to " + limit, pool.swap(1, true, 5, limit), RangedPool.BAD);
            Check.due("up to " + limit, pool.swap(1, false, 5, limit), RangedPool.BAD);
        }
        Check.due("down to 1", pool.swap(1, true, 5, 1), RangedPool.BAD);
        Check.due("up to -1", pool.swap(1, false, 5, -1), RangedPool.BAD);
        Check.same("codes", Check.state(pool, new int[] {-24, 24}), before);
        Check.yes("the most in", pool.swap(1, true, 1000000, -1) > 0);
        Check.yes("the most out", pool.swap(1, false, -1000000, 0) > 0);
    }

    private static void poor() {
        RangedPool pool = new RangedPool(1, 100);
        pool.open(0);
        pool.fund(0, 0, 1000000);
        pool.fund(0, 1, 1000000);
        pool.mint(0, -24, 24, 65536);
        pool.fund(1, 0, 1128);
        pool.fund(1, 1, 1000000);
        pool.advance(1);
        String before = Check.state(pool, new int[] {-24, 24});
        Check.due("1129 are needed", pool.swap(1, true, -1000, -24), RangedPool.POOR);
        Check.same("POOR", Check.state(pool, new int[] {-24, 24}), before);
        pool.burn(0, -24, 24, 0);
        Check.due("no fee was taken", pool.lot(0, -24, 24, 1), 0);
        pool.fund(1, 0, 1);
        Check.due("just enough", pool.swap(1, true, -1000, -24), Check.pair(1129, 1000));
        Check.due("wallet", pool.wallet(1, 0), 0);
        Check.due("BAD before POOR", pool.swap(1, true, 0, -24), RangedPool.BAD);
    }
}
