/** Promise 1: spacing and fee, with what stands in for wrong ones; a pool that is not open; empty wallets. */
public final class Promise01NewObjectTest {
    public static void main(String[] args) {
        for (int spacing = -10; spacing <= 30; spacing++) {
            boolean allowed = spacing == 1 || spacing == 2 || spacing == 3 || spacing == 4 || spacing == 6 || spacing == 8;
            checkSpacing(spacing, allowed ? spacing : 1);
        }
        for (int fee = -5; fee <= 110; fee++) {
            checkFee(fee, fee >= 0 && fee <= 100 ? fee : 3);
        }
        for (int wild : new int[] {Integer.MIN_VALUE, Integer.MAX_VALUE}) {
            checkSpacing(wild, 1);
            checkFee(wild, 3);
        }
        checkNew(new RangedPool(2, 5));
        Check.end();
    }

    /** A range that is one is refused with POOR, as the wallets are empty; one that is none with BAD. */
    private static void checkSpacing(int given, int spacing) {
        RangedPool pool = new RangedPool(given, 3);
        pool.open(0);
        for (int end = -24; end <= 24; end++) {
            int due = end % spacing == 0 ? RangedPool.POOR : RangedPool.BAD;
            if (end < 24) {
                Check.due("spacing " + given + ": mint " + end + " .. 24", pool.mint(0, end, 24, 1), due);
            }
            if (end > -24) {
                Check.due("spacing " + given + ": mint -24 .. " + end, pool.mint(0, -24, end, 1), due);
            }
        }
    }

    private static void checkFee(int given, int fee) {
        RangedPool pool = Check.richPool(1, given, 0);
        pool.mint(0, -24, 24, 500000);
        Check.due("fee " + given, pool.flash(0, 1000, 2000), Check.pair(fee, 2 * fee));
    }

    private static void checkNew(RangedPool pool) {
        Check.due("price", pool.price(), 0);
        Check.due("step", pool.step(), 0);
        Check.due("depth", pool.depth(), 0);
        for (int token = 0; token < 2; token++) {
            Check.due("reserve", pool.reserve(token), 0);
            for (int owner = 0; owner < 4; owner++) {
                Check.due("wallet", pool.wallet(owner, token), 0);
            }
        }
        Check.due("lot", pool.lot(0, -2, 2, 0), RangedPool.NO_LOT);
        Check.due("mint", pool.mint(0, -2, 2, 1), RangedPool.CLOSED);
        Check.due("burn", pool.burn(0, -2, 2, 0), RangedPool.CLOSED);
        Check.due("collect", pool.collect(0, -2, 2), RangedPool.CLOSED);
        Check.due("swap", pool.swap(0, true, 1, -2), RangedPool.CLOSED);
        Check.due("quote", pool.quote(true, 1, -2), RangedPool.CLOSED);
        Check.due("flash", pool.flash(0, 0, 0), RangedPool.CLOSED);
        Check.due("observe", pool.observe(0), RangedPool.CLOSED);
    }
}
