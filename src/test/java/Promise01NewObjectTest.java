/** Promise 1: a new object. */
public final class Promise01NewObjectTest {
    private static final int[] EXTREMES = {Integer.MIN_VALUE, Integer.MAX_VALUE};

    public static void main(String[] args) {
        spacing();
        fee();
        notOpen();
        emptyWallets();
        emptyPool();
        Check.end();
    }

    private static void spacing() {
        Check.sentence("SPACING is spacing, or 1 when it is not 1, 2, 3, 4, 6 or 8");
        for (int spacing = -10; spacing <= 30; spacing++) {
            boolean allowed = spacing == 1 || spacing == 2 || spacing == 3 || spacing == 4 || spacing == 6 || spacing == 8;
            checkSpacing(spacing, allowed ? spacing : 1);
        }
        for (int extreme : EXTREMES) {
            checkSpacing(extreme, 1);
        }
    }

    /** With empty wallets a range that is one is refused with POOR; one that is none with BAD. */
    private static void checkSpacing(int given, int spacing) {
        Pool pool = Check.openPool(given, 3, 0);
        for (int end = -24; end <= 24; end++) {
            int due = end % spacing == 0 ? RangedPool.POOR : RangedPool.BAD;
            if (end < 24) {
                Check.due("spacing " + given + ": mint " + end + " .. 24", pool.mint(0, end, 24, 1), due);
            }
            if (end > -24) {
                Check.due("spacing " + given + ": mint -24 .. " + end, pool.mint(0, -24, end, 1), due);
            }
        }
    }

    private static void fee() {
        Check.sentence("FEE is fee, or 3 when it is not 0 .. 100");
        for (int fee = -5; fee <= 110; fee++) {
            checkFee(fee, fee >= 0 && fee <= 100 ? fee : 3);
        }
        for (int extreme : EXTREMES) {
            checkFee(extreme, 3);
        }
    }

    /** 900 of token 1 are needed from step 0 up to step 1. */
    private static void checkFee(int given, int fee) {
        Pool pool = Check.richPool(1, given, 0);
        pool.mint(0, -1, 1, 36000);
        long dueOf900 = (900 * fee + 999 - fee) / (1000 - fee);
        Check.due("fee " + given + ": swap", pool.quote(false, 1000000, 1), Check.pair(900 + dueOf900, 877));
        pool.mint(0, -24, 24, 500000);
        Check.due("fee " + given + ": flash", pool.flash(0, 1000, 2000), Check.pair(fee, 2 * fee));
    }

    private static void notOpen() {
        Check.sentence("The pool is not open");
        Pool pool = new Pool(2, 5);
        Check.due("price", pool.price(), 0);
        Check.due("step", pool.step(), 0);
        Check.due("observe", pool.observe(0), RangedPool.CLOSED);
        Check.due("quote", pool.quote(true, 1, -2), RangedPool.CLOSED);
        Check.yes("it can be opened", pool.open(0));
    }

    private static void emptyWallets() {
        Check.sentence("wallets are empty");
        Pool pool = new Pool(2, 5);
        for (int owner = 0; owner < 4; owner++) {
            Check.due("token 0 of owner " + owner, pool.wallet(owner, 0), 0);
            Check.due("token 1 of owner " + owner, pool.wallet(owner, 1), 0);
        }
    }

    private static void emptyPool() {
        Check.sentence("A new object");
        Pool pool = new Pool(2, 5);
        Check.due("depth", pool.depth(), 0);
        Check.due("reserve 0", pool.reserve(0), 0);
        Check.due("reserve 1", pool.reserve(1), 0);
        for (int step = -26; step <= 26; step++) {
            Check.due("net(" + step + ")", pool.net(step), 0);
        }
        for (int owner = 0; owner < 4; owner++) {
            Check.due("lot of owner " + owner, pool.lot(owner, -2, 2, 0), RangedPool.NO_LOT);
            Check.due("lot of owner " + owner + ", all 0", pool.lot(owner, 0, 0, 0), RangedPool.NO_LOT);
        }
    }
}
