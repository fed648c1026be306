/** Promise 13: step. */
public final class Promise13StepTest {
    public static void main(String[] args) {
        notOpen();
        everyPriceUpwards();
        everyPriceDownwards();
        lowestAndHighest();
        Check.end();
    }

    private static void notOpen() {
        Check.sentence("c; 0 when the pool is not open.", "not open");
        Pool pool = new Pool(1, 0);
        Check.due("at first", pool.step(), 0);
        pool.advance(5);
        pool.open(-25);
        Check.unchanged("still", pool, 0, RangedPool::step);
        pool.open(-7);
        Check.unchanged("open", pool, -7, RangedPool::step);
    }

    private static Pool wideAt(int step) {
        Pool pool = Check.richPool(1, 0, step);
        pool.mint(0, -24, 24, 65536);
        return pool;
    }

    /** One token more is one price more. */
    private static void everyPriceUpwards() {
        Check.sentence("c; 0 when the pool is not open.", "every price from step -2 up to step 2");
        for (int price = 62378; price <= 68853; price++) {
            Pool pool = wideAt(-2);
            pool.swap(0, false, price - 62377, 24);
            int step = price >= 68853 ? 2 : price >= 67174 ? 1 : price >= 65536 ? 0 : price >= 63937 ? -1 : -2;
            Check.at("up to " + price, pool, price, step);
        }
    }

    private static void everyPriceDownwards() {
        Check.sentence("c; 0 when the pool is not open.", "every price from step 2 down to step -2");
        for (int price = 68852; price >= 62377; price--) {
            Pool pool = wideAt(2);
            pool.swap(0, true, price - 68853, -24);
            int step = price >= 67174 ? 1 : price >= 65536 ? 0 : price >= 63937 ? -1 : -2;
            Check.at("down to " + price, pool, price, step);
        }
    }

    private static void lowestAndHighest() {
        Check.sentence("c; 0 when the pool is not open.", "-25 and 24");
        Pool pool = wideAt(0);
        pool.swap(0, true, 1000000, -24);
        Check.unchanged("below the marked step -24", pool, -25, RangedPool::step);
        pool.swap(0, false, 1000000, 24);
        Check.unchanged("at the marked step 24", pool, 24, RangedPool::step);
    }
}
