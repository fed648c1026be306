/** What the document says first: what the pool is. */
public final class WhatItIsTest {
    private static final int[] LOW = {0, -12, 0};
    private static final int[] HIGH = {1, 0, 12};
    /** Divides what growth is counted in, so that no fee of a lot that is alone in range is lost by rounding. */
    private static final int LIQUIDITY = 262144;

    public static void main(String[] args) {
        anybodyMaySwap();
        priceMoves();
        rangesOfTheirOwn();
        feesOnlyInRange();
        recordOfThePrice();
        Check.end();
    }

    /** Owners 0 and 1 have put in liquidity, 2 and 3 have not. */
    private static Pool pool() {
        Pool pool = Check.richPool(1, 100, 0);
        pool.mint(LOW[0], LOW[1], LOW[2], LIQUIDITY);
        pool.mint(HIGH[0], HIGH[1], HIGH[2], LIQUIDITY);
        return pool;
    }

    private static void anybodyMaySwap() {
        Check.sentence("from which anybody may swap one for the other");
        for (int owner = 0; owner < 4; owner++) {
            Pool pool = pool();
            long up = pool.swap(owner, false, 1000, 24);
            Check.yes("owner " + owner + ", token 1 for token 0", up > Check.pair(1000, 0));
            long down = pool.swap(owner, true, 2000, -24);
            Check.yes("owner " + owner + ", token 0 for token 1", down > Check.pair(2000, 0));
        }
    }

    private static void priceMoves() {
        Check.sentence("at a price that moves as they do");
        Pool pool = pool();
        int price = pool.price();
        for (int i = 0; i < 10; i++) {
            pool.swap(2, false, 1000, 24);
            int higher = pool.price();
            Check.yes("it rises: " + price + ", " + higher, higher > price);
            price = higher;
        }
        for (int i = 0; i < 20; i++) {
            pool.swap(3, true, 1000, -24);
            int lower = pool.price();
            Check.yes("it falls: " + price + ", " + lower, lower < price);
            price = lower;
        }
    }

    private static void rangesOfTheirOwn() {
        Check.sentence("the liquidity for it is put in by owners, each lot for a range of prices of its own");
        Pool pool = pool();
        pool.swap(2, false, 1000, 24);
        Check.due("in the range of the one", pool.depth(), LIQUIDITY);
        pool.mint(2, 0, 1, 1);
        Check.due("and of another", pool.depth(), LIQUIDITY + 1);
        pool.swap(2, true, 1000000, -1);
        Check.due("in the range of the lower", pool.depth(), LIQUIDITY);
        pool.swap(2, true, 1000000, -24);
        Check.due("in the range of none", pool.depth(), 0);
    }

    private static void feesOnlyInRange() {
        Check.sentence("and earns fees only while the price is in its range.");
        Pool pool = pool();
        pool.swap(2, false, 1000, 24);
        Check.settled("the higher, above step 0", pool, HIGH, 0, 100);
        Check.settled("the lower, above step 0", pool, LOW, 0, 0);
        pool.swap(2, true, 1000000, 0);
        pool.burn(HIGH[0], HIGH[1], HIGH[2], 0);
        long zero = pool.lot(HIGH[0], HIGH[1], HIGH[2], 1);
        pool.swap(2, true, 1000, -24);
        Check.settled("the lower, below step 0", pool, LOW, 100, 0);
        Check.settled("the higher, below step 0", pool, HIGH, zero, 100);
    }

    private static void recordOfThePrice() {
        Check.sentence("A record of the price over time can be asked afterwards.");
        Pool pool = pool();
        pool.advance(10);
        pool.swap(2, false, 1000000, 5);
        pool.advance(10);
        pool.swap(2, true, 1000000, -7);
        pool.advance(10);
        Check.due("in the last 10", pool.observe(0) - pool.observe(10), -70);
        Check.due("in the 10 before", pool.observe(10) - pool.observe(20), 50);
        Check.due("in the first 10", pool.observe(20) - pool.observe(30), 0);
    }
}
