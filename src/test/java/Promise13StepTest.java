/** Promise 13: step. */
public final class Promise13StepTest {
    public static void main(String[] args) {
        RangedPool pool = new RangedPool(1, 0);
        Check.due("not open", pool.step(), 0);
        pool.open(-7);
        Check.due("open", pool.step(), -7);
        everyPrice();
        aStepThatIsNoLongerMarked();
        Check.end();
    }

    /** The greatest step whose price is at most the price, at every price between steps -2 and 2. */
    private static void everyPrice() {
        RangedPool pool = Check.richPool(1, 0, -2);
        pool.mint(0, -24, 24, 65536);
        for (int price = 62378; price <= 68853; price++) {
            pool.swap(0, false, 1, 24);
            Check.due("price", pool.price(), price);
            int step = price >= 68853 ? 2 : price >= 67174 ? 1 : price >= 65536 ? 0 : price >= 63937 ? -1 : -2;
            Check.due("step at " + price, pool.step(), step);
        }
        for (int price = 68852; price >= 62377; price--) {
            pool.swap(0, true, -1, -24);
            Check.due("price", pool.price(), price);
            int step = price >= 67174 ? 1 : price >= 65536 ? 0 : price >= 63937 ? -1 : -2;
            Check.due("step down at " + price, pool.step(), step);
        }
    }

    /** The step stays below its price until the price changes. */
    private static void aStepThatIsNoLongerMarked() {
        RangedPool pool = Check.richPool(1, 3, 1);
        pool.mint(0, 0, 2, 1000);
        pool.swap(0, true, 1000000, 0);
        Check.due("crossed", pool.step(), -1);
        pool.burn(0, 0, 2, 1000);
        Check.due("still below", pool.step(), -1);
        pool.mint(0, -1, 1, 1000);
        pool.swap(0, false, 1, 24);
        Check.due("price", pool.price(), 65536);
        Check.due("the price has not changed", pool.step(), -1);
        pool.swap(0, false, 2, 24);
        Check.due("price", pool.price(), 65601);
        Check.due("it has", pool.step(), 0);
    }
}
