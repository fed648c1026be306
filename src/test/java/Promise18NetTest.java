/** Promise 18: net. */
public final class Promise18NetTest {
    public static void main(String[] args) {
        empty();
        loLessHi();
        changes();
        theMost();
        noStep();
        Check.end();
    }

    private static void empty() {
        Check.sentence("The sum of the liquidity of the lots with this lo, less that of those with this hi.", "no lots");
        Pool pool = new Pool(1, 3);
        Check.due("not open", pool.net(0), 0);
        pool.open(0);
        for (int step = -26; step <= 26; step++) {
            Check.due("net(" + step + ")", pool.net(step), 0);
        }
    }

    private static void loLessHi() {
        Check.sentence("The sum of the liquidity of the lots with this lo, less that of those with this hi.");
        Pool pool = Check.richPool(1, 3, 0);
        pool.mint(0, -24, 24, 1);
        pool.mint(1, -24, 3, 10);
        pool.mint(2, 3, 24, 200);
        pool.mint(3, 3, 5, 3000);
        pool.mint(0, 3, 5, 40000);
        for (int step = -26; step <= 26; step++) {
            int due = step == -24 ? 11 : step == 3 ? 43190 : step == 5 ? -43000 : step == 24 ? -201 : 0;
            Check.due("net(" + step + ")", pool.net(step), due);
        }
        Check.unchanged("it only asks", pool, 43190, x -> x.net(3));
    }

    private static void changes() {
        Check.sentence("The sum of the liquidity of the lots with this lo, less that of those with this hi.", "after burn, collect and swap");
        Pool pool = Check.richPool(1, 3, 0);
        pool.mint(0, 3, 5, 40000);
        pool.mint(1, 3, 5, 3000);
        pool.mint(1, 1, 3, 43000);
        Check.due("as much above as below", pool.net(3), 0);
        pool.burn(1, 3, 5, 1000);
        Check.due("burned, lo", pool.net(3), -1000);
        Check.due("burned, hi", pool.net(5), -42000);
        pool.burn(0, 3, 5, 40000);
        Check.due("all burned, though still owed", pool.net(5), -2000);
        pool.collect(0, 3, 5);
        Check.due("gone", pool.net(5), -2000);
        pool.swap(0, false, 1000000, 24);
        Check.due("a swap changes nothing", pool.net(5), -2000);
    }

    private static void theMost() {
        Check.sentence("The sum of the liquidity of the lots with this lo, less that of those with this hi.", "the most");
        Pool pool = Check.richPool(1, 3, 0);
        for (int i = 0; i < 10; i++) {
            Check.yes("lot " + i, pool.mint(i % 4, -24, 24 - i / 4, 100000) > 0);
        }
        Check.due("lo of 10", pool.net(-24), 1000000);
        Check.due("hi of 4", pool.net(24), -400000);
        Check.due("hi of 2", pool.net(22), -200000);
        pool = Check.richPool(1, 3, 0);
        pool.mint(0, -24, 24, 1000000);
        Check.due("lo of 1", pool.net(-24), 1000000);
        Check.due("hi of 1", pool.net(24), -1000000);
    }

    private static void noStep() {
        Check.sentence("The sum of the liquidity of the lots with this lo, less that of those with this hi.", "no step");
        Pool pool = Check.richPool(2, 3, 0);
        pool.mint(0, -24, 24, 7);
        for (int step : Check.NO_STEPS) {
            Check.due("net(" + step + ")", pool.net(step), 0);
        }
        Check.due("not divisible by SPACING", pool.net(-23), 0);
    }
}
