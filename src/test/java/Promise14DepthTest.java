/** Promise 14: depth. */
public final class Promise14DepthTest {
    public static void main(String[] args) {
        empty();
        isDepth();
        afterSwaps();
        theMost();
        Check.end();
    }

    private static void empty() {
        Check.sentence("DEPTH.", "without lots");
        Pool pool = new Pool(1, 3);
        Check.due("not open", pool.depth(), 0);
        pool.open(0);
        Check.unchanged("no lots", pool, 0, RangedPool::depth);
    }

    private static void isDepth() {
        Check.sentence("DEPTH.", "with lots");
        Pool pool = Check.richPool(1, 3, 0);
        pool.mint(0, 0, 1, 1);
        Check.due("lo is in range", pool.depth(), 1);
        pool.mint(0, -1, 0, 10);
        Check.due("hi is not", pool.depth(), 1);
        pool.mint(1, -1, 1, 100);
        pool.mint(2, -1, 1, 1000);
        pool.mint(3, 1, 2, 10000);
        Check.unchanged("several owners", pool, 1101, RangedPool::depth);
        pool.burn(2, -1, 1, 400);
        Check.due("burned", pool.depth(), 701);
        pool.burn(2, -1, 1, 600);
        Check.due("burned, though still owed", pool.depth(), 101);
    }

    private static void afterSwaps() {
        Check.sentence("DEPTH.", "after swaps");
        Pool pool = Check.richPool(1, 3, 0);
        pool.mint(0, -1, 1, 700);
        pool.mint(3, 1, 2, 10000);
        pool.swap(0, false, 1000000, 1);
        Check.due("one step up", pool.depth(), 10000);
        pool.swap(0, false, 1000000, 24);
        Check.due("above all", pool.depth(), 0);
        pool.swap(0, true, 1000000, -1);
        Check.due("below all: -1 is crossed", pool.depth(), 0);
        pool.swap(0, false, 1, 24);
        Check.due("in the lowest", pool.depth(), 700);
    }

    private static void theMost() {
        Check.sentence("DEPTH.", "the most");
        Pool pool = Check.richPool(1, 3, 0);
        for (int i = 1; i <= 10; i++) {
            pool.mint(0, -i, i, 100000);
        }
        Check.due("10 lots", pool.depth(), 1000000);
    }
}
