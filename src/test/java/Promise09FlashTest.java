/** Promise 9: flash. */
public final class Promise09FlashTest {
    private static final int[] LOT = {0, -24, 24};

    public static void main(String[] args) {
        fee();
        everyFee();
        givenBack();
        isAFeeTaken();
        answers();
        noMark();
        closed();
        badOwner();
        badAmount();
        moreThanTheReserve();
        noDepth();
        poor();
        borrowedIsNoWallet();
        firstCode();
        Check.end();
    }

    private static Pool wide(int fee) {
        Pool pool = Check.richPool(1, fee, 0);
        pool.mint(0, -24, 24, 1000000);
        return pool;
    }

    private static void fee() {
        Check.sentence("with a fee of a * FEE / 1000 rounded up, a being the amount");
        Pool pool = wide(3);
        Check.due("nothing", pool.flash(1, 0, 0), 0);
        Check.due("0.003 and 0.999", pool.flash(1, 1, 333), Check.pair(1, 1));
        Check.due("1.002 and 2.997", pool.flash(1, 334, 999), Check.pair(2, 3));
        Check.due("3 exactly and 3.003", pool.flash(1, 1000, 1001), Check.pair(3, 4));
        Check.due("one token", pool.flash(1, 0, 100000), Check.pair(0, 300));
        Check.due("the other", pool.flash(1, 100000, 0), Check.pair(300, 0));
    }

    private static void everyFee() {
        Check.sentence("with a fee of a * FEE / 1000 rounded up", "FEE 0 .. 100");
        Check.due("FEE 0", wide(0).flash(1, 1000, 400000), 0);
        for (int fee = 1; fee <= 100; fee++) {
            Check.due("FEE " + fee, wide(fee).flash(1, 1000, 1), Check.pair(fee, 1));
        }
    }

    private static void givenBack() {
        Check.sentence("An owner borrows so many of each token and gives them back at once");
        Pool pool = wide(3);
        long zero = pool.reserve(0);
        long one = pool.reserve(1);
        pool.flash(1, 334, 100000);
        Check.due("wallet 0", pool.wallet(1, 0), 1000000000 - 2);
        Check.due("wallet 1", pool.wallet(1, 1), 1000000000 - 300);
        Check.due("reserve 0", pool.reserve(0), zero + 2);
        Check.due("reserve 1", pool.reserve(1), one + 300);
        Check.due("another wallet", pool.wallet(2, 0), 1000000000);
        Check.at("the price stays", pool, 65536, 0);
        pool = wide(0);
        Check.unchanged("without a fee", pool, 0, x -> x.flash(1, 1000, 1000));
    }

    private static void isAFeeTaken() {
        Check.sentence("this is a fee taken");
        Pool pool = Check.richPool(1, 100, 0);
        pool.mint(0, -1, 1, 65536);
        pool.mint(1, 0, 2, 65536);
        pool.mint(2, 1, 2, 65536);
        pool.mint(3, -1, 0, 65536);
        pool.flash(0, 1000, 600);
        Check.owed("not settled yet", pool, new int[] {0, -1, 1}, 0, 0);
        Check.settled("half", pool, new int[] {0, -1, 1}, 50, 30);
        Check.settled("half", pool, new int[] {1, 0, 2}, 50, 30);
        Check.settled("above", pool, new int[] {2, 1, 2}, 0, 0);
        Check.settled("below", pool, new int[] {3, -1, 0}, 0, 0);
    }

    private static void answers() {
        Check.sentence("Answers the two fees, as mint does.");
        Check.due("both", wide(100).flash(1, 1000, 20), 100 * 4294967296L + 2);
        Pool pool = Check.richPool(1, 100, -24);
        pool.mint(0, -24, 24, 1000000);
        Check.due("the most of token 0", pool.flash(1, 1000000, 0), 100000 * 4294967296L);
        pool = Check.richPool(1, 100, 23);
        pool.mint(0, -24, 24, 1000000);
        Check.due("the most of token 1", pool.flash(1, 0, 1000000), 100000);
        Check.settled("2 to the 32 does not divide by 1000000", pool, LOT, 0, 99999);
    }

    private static void noMark() {
        Check.sentence("one at the beginning of every swap, mint or burn that is done", "not of a flash");
        Pool pool = wide(3);
        for (int i = 0; i < 20; i++) {
            pool.advance(1);
            Check.due("flash", pool.flash(0, 1, 1), Check.pair(1, 1));
        }
        Check.due("the mark of opening is still there", pool.observe(20), 0);
    }

    private static void closed() {
        Check.sentence("CLOSED: the pool is not open.", "flash");
        Pool pool = new Pool(1, 3);
        pool.fund(0, 0, 1000);
        Check.refused("not open", pool, RangedPool.CLOSED, x -> x.flash(0, 0, 0));
    }

    private static void badOwner() {
        Check.sentence("BAD when there is no such owner", "flash");
        Pool pool = wide(3);
        for (int owner : Check.NO_OWNERS) {
            Check.refused("owner " + owner, pool, RangedPool.BAD, x -> x.flash(owner, 1, 1));
        }
        Check.due("the first owner", pool.flash(0, 1, 1), Check.pair(1, 1));
        Check.due("the last owner", pool.flash(3, 1, 1), Check.pair(1, 1));
    }

    private static void badAmount() {
        Check.sentence("an amount is not 0 .. 1000000");
        Pool pool = wide(3);
        for (int amount : new int[] {-1, 1000001, Integer.MIN_VALUE, Integer.MAX_VALUE}) {
            Check.refused("zero " + amount, pool, RangedPool.BAD, x -> x.flash(1, amount, 0));
            Check.refused("one " + amount, pool, RangedPool.BAD, x -> x.flash(1, 0, amount));
        }
        Pool low = Check.richPool(1, 3, -24);
        low.mint(0, -24, 24, 1000000);
        Check.refused("zero 1000001, which the reserve has", low, RangedPool.BAD, x -> x.flash(1, 1000001, 0));
        Check.due("zero 1000000", low.flash(1, 1000000, 0), Check.pair(3000, 0));
        Pool high = Check.richPool(1, 3, 23);
        high.mint(0, -24, 24, 1000000);
        Check.refused("one 1000001, which the reserve has", high, RangedPool.BAD, x -> x.flash(1, 0, 1000001));
        Check.due("one 1000000", high.flash(1, 0, 1000000), Check.pair(0, 3000));
    }

    private static void moreThanTheReserve() {
        Check.sentence("or more than the reserve");
        Pool pool = Check.richPool(1, 3, 0);
        pool.mint(0, -1, 1, 1000);
        Check.due("reserve 0", pool.reserve(0), 25);
        Check.due("reserve 1", pool.reserve(1), 25);
        Check.refused("1 more than reserve 0", pool, RangedPool.BAD, x -> x.flash(0, 26, 0));
        Check.refused("1 more than reserve 1", pool, RangedPool.BAD, x -> x.flash(0, 0, 26));
        Check.refused("1 more than both", pool, RangedPool.BAD, x -> x.flash(0, 26, 26));
        Check.due("all of both", pool.flash(0, 25, 25), Check.pair(1, 1));
        Check.due("the fees are there too", pool.flash(0, 26, 26), Check.pair(1, 1));
    }

    private static void noDepth() {
        Check.sentence("or DEPTH is 0", "flash");
        Pool pool = Check.richPool(1, 3, 0);
        Check.refused("no lots", pool, RangedPool.BAD, x -> x.flash(0, 0, 0));
        pool.mint(0, 1, 2, 1000);
        pool.mint(0, -2, 0, 1000);
        Check.refused("none in range", pool, RangedPool.BAD, x -> x.flash(0, 1, 1));
        Check.refused("none in range, nothing borrowed", pool, RangedPool.BAD, x -> x.flash(0, 0, 0));
        pool.mint(0, 0, 1, 1);
        Check.due("the least depth", pool.flash(0, 1, 1), Check.pair(1, 1));
        pool.burn(0, 0, 1, 1);
        Check.refused("burned", pool, RangedPool.BAD, x -> x.flash(0, 1, 1));
    }

    private static void poor() {
        Check.sentence("POOR when the wallet has not got the fees");
        Pool pool = Check.openPool(1, 100, 0);
        pool.fund(0, 0, 1000000);
        pool.fund(0, 1, 1000000);
        pool.mint(0, -24, 24, 65536);
        pool.fund(1, 0, 10);
        pool.fund(1, 1, 19);
        Check.refused("token 1 is 1 short", pool, RangedPool.POOR, x -> x.flash(1, 100, 200));
        Check.refused("token 0 is 1 short", pool, RangedPool.POOR, x -> x.flash(1, 110, 190));
        Check.refused("token 0 is 1 short, as the fee is rounded up", pool, RangedPool.POOR, x -> x.flash(1, 101, 190));
        Check.due("just enough", pool.flash(1, 100, 190), Check.pair(10, 19));
        Check.due("nothing is left", pool.wallet(1, 0) + pool.wallet(1, 1), 0);
        Check.due("nothing needs nothing", pool.flash(2, 0, 0), 0);
    }

    private static void borrowedIsNoWallet() {
        Check.sentence("POOR when the wallet has not got the fees", "what is borrowed goes back");
        Pool pool = Check.openPool(1, 100, 0);
        pool.fund(0, 0, 1000000);
        pool.fund(0, 1, 1000000);
        pool.mint(0, -24, 24, 65536);
        Check.refused("of token 0", pool, RangedPool.POOR, x -> x.flash(1, 10000, 0));
        Check.refused("of token 1", pool, RangedPool.POOR, x -> x.flash(1, 0, 10000));
    }

    private static void firstCode() {
        Check.sentence("Where several codes would do, the first that its comment names is answered.", "flash");
        Check.refused("CLOSED before BAD", new Pool(1, 3), RangedPool.CLOSED, x -> x.flash(9, -1, -1));
        Pool pool = Check.openPool(1, 100, 0);
        pool.fund(0, 0, 25);
        pool.fund(0, 1, 25);
        pool.mint(0, -1, 1, 1000);
        Check.refused("POOR", pool, RangedPool.POOR, x -> x.flash(0, 25, 25));
        Check.refused("BAD before POOR, owner", pool, RangedPool.BAD, x -> x.flash(4, 25, 25));
        Check.refused("BAD before POOR, zero", pool, RangedPool.BAD, x -> x.flash(0, 26, 25));
        Check.refused("BAD before POOR, one", pool, RangedPool.BAD, x -> x.flash(0, 25, 26));
        pool.burn(0, -1, 1, 1000);
        Check.refused("BAD before POOR, depth", pool, RangedPool.BAD, x -> x.flash(0, 25, 25));
    }
}
