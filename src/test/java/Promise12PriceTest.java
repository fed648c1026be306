/** Promise 12: price. */
public final class Promise12PriceTest {
    public static void main(String[] args) {
        RangedPool pool = new RangedPool(1, 0);
        Check.due("not open", pool.price(), 0);
        pool.advance(5);
        pool.fund(0, 0, 1000000);
        pool.fund(0, 1, 1000000);
        Check.due("not open", pool.price(), 0);
        pool.open(3);
        Check.due("open", pool.price(), 70574);
        pool.mint(0, 0, 6, 65536);
        Check.due("mint moves nothing", pool.price(), 70574);
        pool.swap(0, false, 10, 24);
        Check.due("10 up", pool.price(), 70584);
        pool.swap(0, true, -7, -24);
        Check.due("7 down", pool.price(), 70577);
        pool.swap(0, true, -1000000, -5);
        Check.due("to the limit", pool.price(), 57921);
        Check.end();
    }
}
