/** Promise 12: price. */
public final class Promise12PriceTest {
    public static void main(String[] args) {
        notOpen();
        isP();
        staysOtherwise();
        Check.end();
    }

    private static void notOpen() {
        Check.sentence("p; 0 when the pool is not open.", "not open");
        Pool pool = new Pool(1, 0);
        Check.due("at first", pool.price(), 0);
        pool.advance(5);
        pool.fund(0, 0, 1000000);
        pool.open(25);
        Check.unchanged("still", pool, 0, RangedPool::price);
    }

    private static void isP() {
        Check.sentence("p; 0 when the pool is not open.", "open");
        Pool pool = Check.richPool(1, 0, 3);
        Check.due("open", pool.price(), 70574);
        pool.mint(0, 0, 6, 65536);
        pool.swap(0, false, 10, 24);
        Check.due("10 up", pool.price(), 70584);
        pool.swap(0, true, -7, -24);
        Check.unchanged("7 down", pool, 70577, RangedPool::price);
        pool.swap(0, true, -1000000, -5);
        Check.due("to the limit", pool.price(), 57921);
        pool.swap(0, true, 1, -24);
        Check.due("the lowest", pool.price(), 36223);
        pool.swap(0, false, 1000000, 24);
        Check.due("the highest", pool.price(), 118522);
    }

    private static void staysOtherwise() {
        Check.sentence("p; 0 when the pool is not open.", "only a swap moves it");
        Pool pool = Check.richPool(1, 3, 3);
        pool.mint(0, 0, 6, 65536);
        Check.due("mint", pool.price(), 70574);
        pool.flash(0, 100, 100);
        Check.due("flash", pool.price(), 70574);
        pool.quote(true, 100, 0);
        Check.due("quote", pool.price(), 70574);
        pool.burn(0, 0, 6, 65536);
        Check.due("burn", pool.price(), 70574);
        pool.collect(0, 0, 6);
        Check.due("collect", pool.price(), 70574);
    }
}
