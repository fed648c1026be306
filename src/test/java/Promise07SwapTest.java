/** Promise 7: swap. How a swap goes is tested in TermsSwapTest. */
public final class Promise07SwapTest {
    private static final boolean DOWN = true;
    private static final boolean UP = false;

    public static void main(String[] args) {
        ownerSwaps();
        answers();
        closed();
        badOwner();
        badAmount();
        badLimit();
        limitAtThePrice();
        limitAtACrossedStep();
        poor();
        poorUpwards();
        whatWouldBePaid();
        paysNothing();
        refusedInTheMiddle();
        firstCode();
        Check.end();
    }

    private static Pool wide(int fee) {
        Pool pool = Check.richPool(1, fee, 0);
        pool.mint(0, -24, 24, 65536);
        return pool;
    }

    private static void ownerSwaps() {
        Check.sentence("An owner SWAPS.");
        for (int owner = 0; owner < 4; owner++) {
            Pool pool = wide(100);
            long zero = pool.wallet(owner, 0);
            long one = pool.wallet(owner, 1);
            Check.due("owner " + owner, pool.swap(owner, DOWN, -1000, -24), Check.pair(1129, 1000));
            Check.due("pays from this wallet", pool.wallet(owner, 0), zero - 1129);
            Check.due("gets into this wallet", pool.wallet(owner, 1), one + 1000);
            Check.due("reserve 0", pool.reserve(0), 29299 + 1129);
            Check.due("reserve 1", pool.reserve(1), 29313 - 1000);
            int other = (owner + 1) % 4;
            long minted = other == 0 ? 29299 : 0;
            Check.due("no other wallet", pool.wallet(other, 0), 1000000000 - minted);
        }
    }

    private static void answers() {
        Check.sentence("Answers what was paid in, fees and all, times 4294967296, plus what went out.");
        Check.due("down", wide(100).swap(1, DOWN, -1000, -24), 1129 * 4294967296L + 1000);
        Check.due("up", wide(100).swap(1, UP, -1000, 24), 1129 * 4294967296L + 1000);
        Pool pool = Check.richPool(1, 100, 24);
        pool.mint(0, -24, 24, 1000000);
        Check.due("the most that can go out", pool.swap(1, DOWN, -1000000, -24), 759903 * 4294967296L + 1000000);
        Check.due("and back, as far as it goes", pool.swap(1, UP, -1000000, 24), 1111112 * 4294967296L + 683911);
    }

    private static void closed() {
        Check.sentence("CLOSED: the pool is not open.", "swap");
        Pool pool = new Pool(1, 3);
        pool.fund(0, 0, 1000);
        pool.fund(0, 1, 1000);
        Check.refused("down", pool, RangedPool.CLOSED, x -> x.swap(0, DOWN, 1, -24));
        Check.refused("up", pool, RangedPool.CLOSED, x -> x.swap(0, UP, 1, 24));
    }

    private static void badOwner() {
        Check.sentence("BAD when there is no such owner", "swap");
        Pool pool = wide(3);
        pool.advance(1);
        for (int owner : Check.NO_OWNERS) {
            Check.refused("owner " + owner, pool, RangedPool.BAD, x -> x.swap(owner, DOWN, 5, -24));
        }
    }

    private static void badAmount() {
        Check.sentence("the amount is 0 or not -1000000 .. 1000000");
        Pool pool = wide(3);
        pool.advance(1);
        for (int amount : new int[] {0, 1000001, -1000001, Integer.MIN_VALUE, Integer.MAX_VALUE}) {
            Check.refused("down " + amount, pool, RangedPool.BAD, x -> x.swap(1, DOWN, amount, -24));
            Check.refused("up " + amount, pool, RangedPool.BAD, x -> x.swap(1, UP, amount, 24));
        }
        for (int amount : new int[] {1, 1000000, -1, -1000000}) {
            Check.yes("down " + amount, pool.again().swap(1, DOWN, amount, -24) > 0);
            Check.yes("up " + amount, pool.again().swap(1, UP, amount, 24) > 0);
        }
    }

    private static void badLimit() {
        Check.sentence("limit is not -24 .. 24");
        Pool pool = wide(3);
        pool.advance(1);
        for (int limit : Check.NO_STEPS) {
            Check.refused("down to " + limit, pool, RangedPool.BAD, x -> x.swap(1, DOWN, 5, limit));
            Check.refused("up to " + limit, pool, RangedPool.BAD, x -> x.swap(1, UP, 5, limit));
        }
        Check.yes("down to the lowest", pool.again().swap(1, DOWN, 5, -24) > 0);
        Check.yes("up to the highest", pool.again().swap(1, UP, 5, 24) > 0);
        Pool spaced = Check.openPool(8, 3, 0);
        Check.due("a limit need not be divisible by SPACING", spaced.swap(1, DOWN, 5, -3), 0);
        Check.at("there", spaced, 60855, -3);
    }

    private static void limitAtThePrice() {
        Check.sentence("or its price is not below p (downwards), above p (upwards)");
        Pool pool = wide(0);
        pool.advance(1);
        for (int limit : new int[] {0, 1, 24}) {
            Check.refused("down to " + limit, pool, RangedPool.BAD, x -> x.swap(1, DOWN, 5, limit));
        }
        for (int limit : new int[] {0, -1, -24}) {
            Check.refused("up to " + limit, pool, RangedPool.BAD, x -> x.swap(1, UP, 5, limit));
        }
        Check.due("down to -1", pool.again().swap(1, DOWN, 5, -1), Check.pair(5, 4));
        Check.due("up to 1", pool.again().swap(1, UP, 5, 1), Check.pair(5, 4));
        pool.swap(1, UP, 1, 24);
        Check.at("1 above P(0)", pool, 65537, 0);
        Check.due("down to 0", pool.again().swap(1, DOWN, 5, 0), Check.pair(1, 1));
        Check.refused("up to 0", pool, RangedPool.BAD, x -> x.swap(1, UP, 5, 0));
        pool.swap(1, DOWN, -2, -24);
        Check.at("1 below P(0)", pool, 65535, -1);
        Check.due("up to 0", pool.again().swap(1, UP, 5, 0), Check.pair(1, 1));
        Check.refused("down to 0", pool, RangedPool.BAD, x -> x.swap(1, DOWN, 5, 0));
        pool.swap(1, DOWN, 1000000, -24);
        Check.refused("no limit is below the lowest price", pool, RangedPool.BAD, x -> x.swap(1, DOWN, 5, -24));
        pool.swap(1, UP, 1000000, 24);
        Check.refused("no limit is above the highest", pool, RangedPool.BAD, x -> x.swap(1, UP, 5, 24));
    }

    /** The price is P(0), the step -1: the price counts. */
    private static void limitAtACrossedStep() {
        Check.sentence("its price is not below p (downwards), above p (upwards)", "not the step's number");
        Pool pool = Check.richPool(1, 0, 1);
        pool.mint(0, 0, 2, 1000);
        pool.swap(1, DOWN, 1000000, 0);
        Check.at("crossed downwards", pool, 65536, -1);
        Check.refused("up to 0", pool, RangedPool.BAD, x -> x.swap(1, UP, 5, 0));
        Check.refused("down to 0", pool, RangedPool.BAD, x -> x.swap(1, DOWN, 5, 0));
        Check.due("down to -1", pool.again().swap(1, DOWN, 5, -1), 0);
        Check.due("up to 1", pool.again().swap(1, UP, 5, 1), Check.pair(5, 4));
    }

    /** Of token 0 owner 1 has 1 less than the 1129 that are needed for 1000 of token 1. */
    private static void poor() {
        Check.sentence("POOR when the wallet has less than what would be paid in");
        Pool pool = Check.openPool(1, 100, 0);
        pool.fund(0, 0, 1000000);
        pool.fund(0, 1, 1000000);
        pool.mint(0, -24, 24, 65536);
        pool.fund(1, 0, 1128);
        pool.fund(1, 1, 1000000);
        pool.advance(1);
        Check.refused("1 short, by what goes out", pool, RangedPool.POOR, x -> x.swap(1, DOWN, -1000, -24));
        Check.refused("1 short, by what is paid in", pool, RangedPool.POOR, x -> x.swap(1, DOWN, 1129, -24));
        Check.refused("nothing at all", pool, RangedPool.POOR, x -> x.swap(2, DOWN, 1, -24));
        pool.fund(1, 0, 1);
        Check.due("just enough, by what is paid in", pool.again().swap(1, DOWN, 1129, -24), Check.pair(1129, 1000));
        Check.due("just enough, by what goes out", pool.swap(1, DOWN, -1000, -24), Check.pair(1129, 1000));
        Check.due("nothing is left", pool.wallet(1, 0), 0);
    }

    private static void poorUpwards() {
        Check.sentence("POOR when the wallet has less than what would be paid in", "upwards");
        Pool pool = Check.openPool(1, 100, 0);
        pool.fund(0, 0, 1000000);
        pool.fund(0, 1, 1000000);
        pool.mint(0, -24, 24, 65536);
        pool.fund(1, 0, 1000000);
        pool.fund(1, 1, 1128);
        pool.advance(1);
        Check.refused("1 short, by what goes out", pool, RangedPool.POOR, x -> x.swap(1, UP, -1000, 24));
        Check.refused("1 short, by what is paid in", pool, RangedPool.POOR, x -> x.swap(1, UP, 1129, 24));
        pool.fund(1, 1, 1);
        Check.due("just enough", pool.swap(1, UP, -1000, 24), Check.pair(1129, 1000));
        Check.due("nothing is left", pool.wallet(1, 1), 0);
    }

    /** Down to step -1, 1639 are needed, whatever the amount is. */
    private static void whatWouldBePaid() {
        Check.sentence("POOR when the wallet has less than what would be paid in", "the amount may be more");
        Pool pool = Check.openPool(1, 0, 0);
        pool.fund(0, 0, 29299);
        pool.fund(0, 1, 29313);
        pool.mint(0, -24, 24, 65536);
        pool.fund(1, 0, 1638);
        Check.refused("1 short", pool, RangedPool.POOR, x -> x.swap(1, DOWN, 1000000, -1));
        pool.fund(1, 0, 1);
        Check.due("enough up to the limit", pool.swap(1, DOWN, 1000000, -1), Check.pair(1639, 1599));
        Check.due("wallet 1", pool.wallet(1, 1), 1599);
    }

    private static void paysNothing() {
        Check.sentence("POOR when the wallet has less than what would be paid in", "a swap without liquidity needs nothing");
        Pool pool = Check.openPool(1, 100, 0);
        Check.due("down with empty wallets", pool.swap(0, DOWN, 1000000, -24), 0);
        Check.at("down", pool, 36223, -24);
        Check.due("up with empty wallets", pool.swap(3, UP, -1000000, 24), 0);
        Check.at("up", pool, 118522, 24);
    }

    /** The way would lead over two marked steps, with a fee on each leg. */
    private static void refusedInTheMiddle() {
        Check.sentence("A call that answers a code below 0, or false, changes nothing.", "POOR after several legs");
        Pool pool = Check.openPool(1, 100, 0);
        pool.fund(0, 0, 1000000);
        pool.fund(0, 1, 1000000);
        pool.mint(0, -1, 1, 65536);
        pool.mint(0, -3, -1, 131072);
        pool.mint(0, -9, 9, 1024);
        pool.fund(1, 0, 9666);
        pool.advance(1);
        Check.refused("1 short", pool, RangedPool.POOR, x -> x.swap(1, DOWN, -1000000, -24));
        Check.due("a flash later", pool.flash(0, 10, 10), Check.pair(1, 1));
        Check.settled("no fee but that of the flash", pool, new int[] {0, -1, 1}, 0, 0);
        pool.fund(1, 0, 1);
        Check.due("just enough", pool.swap(1, DOWN, -1000000, -24), Check.pair(9667, 7965));
    }

    private static void firstCode() {
        Check.sentence("Where several codes would do, the first that its comment names is answered.", "swap");
        Check.refused("CLOSED before BAD", new Pool(1, 3), RangedPool.CLOSED, x -> x.swap(9, DOWN, 0, 99));
        Pool pool = Check.openPool(1, 3, 0);
        pool.fund(0, 0, 1000000);
        pool.fund(0, 1, 1000000);
        pool.mint(0, -24, 24, 65536);
        Check.refused("POOR", pool, RangedPool.POOR, x -> x.swap(1, DOWN, 5, -24));
        Check.refused("BAD before POOR, owner", pool, RangedPool.BAD, x -> x.swap(4, DOWN, 5, -24));
        Check.refused("BAD before POOR, amount", pool, RangedPool.BAD, x -> x.swap(1, DOWN, 0, -24));
        Check.refused("BAD before POOR, limit", pool, RangedPool.BAD, x -> x.swap(1, DOWN, 5, -25));
        Check.refused("BAD before POOR, its price", pool, RangedPool.BAD, x -> x.swap(1, DOWN, 5, 0));
    }
}
