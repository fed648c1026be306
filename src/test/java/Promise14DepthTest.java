/** Promise 14: depth. */
public final class Promise14DepthTest {
    public static void main(String[] args) {
        RangedPool pool = new RangedPool(1, 3);
        Check.due("not open", pool.depth(), 0);
        pool = Check.richPool(1, 3, 0);
        Check.due("no lots", pool.depth(), 0);
        pool.mint(0, 0, 1, 1);
        Check.due("lo is in range", pool.depth(), 1);
        pool.mint(0, -1, 0, 10);
        Check.due("hi is not", pool.depth(), 1);
        pool.mint(1, -1, 1, 100);
        pool.mint(2, -1, 1, 1000);
        pool.mint(3, 1, 2, 10000);
        Check.due("several owners", pool.depth(), 1101);
        pool.burn(2, -1, 1, 400);
        Check.due("burned", pool.depth(), 701);
        pool.swap(0, false, 1000000, 1);
        Check.due("one step up", pool.depth(), 10000);
        pool.swap(0, false, 1000000, 24);
        Check.due("above all", pool.depth(), 0);
        pool.swap(0, true, 1000000, -1);
        Check.due("below all: -1 is crossed", pool.depth(), 0);
        pool.swap(0, false, 1, 24);
        Check.due("in the lowest", pool.depth(), 710);
        pool = Check.richPool(1, 3, 0);
        pool.mint(0, -1, 1, 1000000);
        Check.due("the most", pool.depth(), 1000000);
        Check.end();
    }
}
