/** Promise 18: net. */
public final class Promise18NetTest {
    public static void main(String[] args) {
        RangedPool pool = new RangedPool(1, 3);
        Check.due("not open", pool.net(0), 0);
        pool = Check.richPool(1, 3, 0);
        pool.mint(0, -24, 24, 1);
        pool.mint(1, -24, 3, 10);
        pool.mint(2, 3, 24, 200);
        pool.mint(3, 3, 5, 3000);
        pool.mint(0, 3, 5, 40000);
        for (int step = -26; step <= 26; step++) {
            int due = step == -24 ? 11 : step == 3 ? 43190 : step == 5 ? -43000 : step == 24 ? -201 : 0;
            Check.due("net(" + step + ")", pool.net(step), due);
        }
        Check.due("no step", pool.net(Integer.MIN_VALUE), 0);
        Check.due("no step", pool.net(Integer.MAX_VALUE), 0);
        pool.burn(3, 3, 5, 1000);
        Check.due("burned, lo", pool.net(3), 42190);
        Check.due("burned, hi", pool.net(5), -42000);
        pool.burn(0, 3, 5, 40000);
        Check.due("all burned, though still owed", pool.net(5), -2000);
        pool.swap(0, false, 1000000, 24);
        Check.due("a swap changes nothing", pool.net(3), 2190);
        Check.end();
    }
}
