/** Promise 11: observe, and the marks of time. */
public final class Promise11ObserveTest {
    public static void main(String[] args) {
        betweenMarks();
        severalAtOneTime();
        eightMarks();
        whatMakesAMark();
        codes();
        Check.end();
    }

    /** Steps 0 for 4 ticks, -3 for 5, 7 for 6: the sum after each tick is known. */
    private static void betweenMarks() {
        RangedPool pool = new RangedPool(1, 3);
        pool.advance(11);
        pool.open(0);
        pool.advance(4);
        pool.swap(0, true, 1, -3);
        pool.advance(2);
        pool.advance(3);
        pool.swap(0, false, 1, 7);
        pool.advance(6);
        long[] sums = {0, 0, 0, 0, 0, -3, -6, -9, -12, -15, -8, -1, 6, 13, 20, 27};
        for (int ago = 0; ago < 16; ago++) {
            Check.due("observe(" + ago + ")", pool.observe(ago), sums[15 - ago]);
        }
        Check.due("before opening", pool.observe(16), RangedPool.OLD);
    }

    private static void severalAtOneTime() {
        RangedPool pool = new RangedPool(1, 3);
        pool.open(5);
        pool.swap(0, true, 1, 2);
        pool.advance(2);
        for (int i = 0; i < 20; i++) {
            pool.swap(0, false, 1, 9);
            pool.swap(0, true, 1, -1);
        }
        pool.advance(3);
        Check.due("2 * 2 - 3", pool.observe(0), 1);
        Check.due("2 * 2 - 1", pool.observe(2), 3);
        Check.due("2 * 2", pool.observe(3), 4);
        Check.due("2", pool.observe(4), 2);
        Check.due("opening", pool.observe(5), 0);
    }

    private static void eightMarks() {
        RangedPool pool = new RangedPool(1, 3);
        pool.open(0);
        for (int i = 1; i <= 7; i++) {
            pool.advance(10);
            pool.swap(0, i % 2 == 0, 1, i % 2);
        }
        Check.due("8 marks", pool.observe(70), 0);
        pool.swap(0, true, 1, 0);
        Check.due("at this time there is a mark already", pool.observe(70), 0);
        pool.advance(10);
        Check.due("not before the swap", pool.observe(80), 0);
        pool.swap(0, false, 1, 1);
        Check.due("the oldest went", pool.observe(71), RangedPool.OLD);
        Check.due("the second is the oldest now", pool.observe(70), 0);
        Check.due("1 for three times 10 ticks, 0 for the rest", pool.observe(0), 30);
        Check.due("in the middle of the first 1", pool.observe(65), 5);
    }

    private static void whatMakesAMark() {
        for (int kind = 0; kind < 9; kind++) {
            RangedPool pool = Check.richPool(1, 3, 1);
            pool.mint(0, -24, 24, 1000);
            for (int i = 0; i < 8; i++) {
                pool.advance(1);
                call(pool, kind);
            }
            boolean marks = kind < 3;
            Check.due("kind " + kind + ", after 8 of them", pool.observe(8), marks ? RangedPool.OLD : 0);
            Check.due("kind " + kind + ", the first of them", pool.observe(7), 1);
        }
    }

    private static void call(RangedPool pool, int kind) {
        switch (kind) {
            case 0:
                pool.mint(0, -24, 24, 1);
                break;
            case 1:
                pool.burn(0, -24, 24, 0);
                break;
            case 2:
                pool.swap(0, true, 1, -24);
                break;
            case 3:
                pool.collect(0, -24, 24);
                break;
            case 4:
                pool.flash(0, 1, 1);
                break;
            case 5:
                pool.quote(true, 1, -24);
                break;
            case 6:
                pool.mint(0, -24, 24, 1000000);
                break;
            case 7:
                pool.burn(0, -24, 24, 1001);
                break;
            default:
                pool.swap(0, true, 0, -24);
                break;
        }
    }

    private static void codes() {
        RangedPool pool = new RangedPool(1, 3);
        Check.due("CLOSED", pool.observe(-1), RangedPool.CLOSED);
        pool.open(-1);
        Check.due("BAD", pool.observe(-1), RangedPool.BAD);
        Check.due("BAD", pool.observe(Integer.MIN_VALUE), RangedPool.BAD);
        Check.due("OLD", pool.observe(1), RangedPool.OLD);
        Check.due("OLD", pool.observe(Integer.MAX_VALUE), RangedPool.OLD);
        for (int sum = -1; sum >= -5; sum--) {
            pool.advance(1);
            Check.due("a sum as low as a code", pool.observe(0), sum);
        }
    }
}
