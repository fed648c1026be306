/** The terms: the clock, the sum and the marks of time. In a pool without lots a swap moves the step for nothing. */
public final class TermsTimeTest {
    public static void main(String[] args) {
        clockAtFirst();
        sumSinceOpening();
        stepAtThatTime();
        severalStepsAtOneTime();
        lowestStepCounts();
        markOfOpening();
        markOfSwap();
        markOfMint();
        markOfBurn();
        noOtherMarks();
        noMarkOfRefusedCalls();
        atTheBeginning();
        oneMarkAtATime();
        atMostEight();
        nineAtOneTimeAreOne();
        Check.end();
    }

    private static void clockAtFirst() {
        Check.sentence("The CLOCK is 0 at first.");
        Pool pool = Check.openPool(1, 3, 9);
        Check.due("opened at once", pool.observe(0), 0);
        Check.due("there was no tick before", pool.observe(1), RangedPool.OLD);
    }

    private static void sumSinceOpening() {
        Check.sentence("The SUM is the sum of c over all ticks of the clock since the pool was opened");
        for (int before : new int[] {0, 1, 10000}) {
            Pool pool = new Pool(1, 3);
            pool.advance(before);
            pool.open(9);
            Check.due("no tick since", pool.observe(0), 0);
            pool.advance(1);
            Check.due("one tick", pool.observe(0), 9);
            Check.due("at the opening", pool.observe(1), 0);
            Check.due("before it", pool.observe(2), RangedPool.OLD);
        }
    }

    private static void stepAtThatTime() {
        Check.sentence("at each tick the c at that time is added");
        Pool pool = Check.openPool(1, 3, 5);
        pool.advance(2);
        pool.swap(0, true, 1, -7);
        Check.due("a swap adds nothing", pool.observe(0), 10);
        pool.advance(1);
        Check.due("the first tick after it", pool.observe(0), 3);
        pool.advance(1);
        pool.swap(0, false, 1, 0);
        pool.advance(100);
        Check.due("0 adds nothing", pool.observe(0), -4);
        long[] sums = {0, 5, 10, 3, -4, -4};
        for (int time = 0; time < 6; time++) {
            Check.due("at " + time, pool.observe(104 - time), sums[time]);
        }
    }

    private static void severalStepsAtOneTime() {
        Check.sentence("at each tick the c at that time is added", "the last of several");
        Pool pool = Check.openPool(1, 3, 5);
        pool.swap(0, true, 1, 2);
        pool.advance(2);
        for (int i = 0; i < 20; i++) {
            pool.swap(0, false, 1, 9);
            pool.swap(0, true, 1, -1);
        }
        pool.advance(3);
        long[] sums = {0, 2, 4, 3, 2, 1};
        for (int time = 0; time < 6; time++) {
            Check.due("at " + time, pool.observe(5 - time), sums[time]);
        }
    }

    private static void lowestStepCounts() {
        Check.sentence("The SUM is the sum of c over all ticks", "c is -25");
        Pool pool = Check.richPool(1, 3, -24);
        pool.mint(0, -24, 24, 1000);
        pool.swap(0, false, 5, 24);
        pool.swap(0, true, 1000000, -24);
        Check.due("step", pool.step(), -25);
        pool.advance(10000);
        Check.due("sum", pool.observe(0), -250000);
        Check.due("in the middle", pool.observe(9999), -25);
    }

    private static void markOfOpening() {
        Check.sentence("one is made when the pool is opened");
        Pool pool = new Pool(1, 3);
        pool.advance(4);
        pool.open(1);
        pool.advance(10000);
        Check.due("at the mark", pool.observe(10000), 0);
        Check.due("before it", pool.observe(10001), RangedPool.OLD);
    }

    /** Of the calls after the opening each makes a mark, so that the eighth of them drives out that of the opening. */
    private static void marks(String what, boolean made, Pool pool, Pool.Call call) {
        for (int i = 0; i < 7; i++) {
            pool.advance(1);
            pool.answer(call);
        }
        Check.due(what + ": after 7 of them", pool.observe(7), 0);
        pool.advance(1);
        Check.due(what + ": before the eighth", pool.observe(8), 0);
        pool.answer(call);
        Check.due(what + ": after the eighth", pool.observe(8), made ? RangedPool.OLD : 0);
        Check.due(what + ": at the first of them", pool.observe(7), 1);
    }

    private static Pool rich() {
        Pool pool = Check.richPool(1, 3, 1);
        Check.yes("mint", pool.mint(0, -24, 24, 1000) > 0);
        return pool;
    }

    private static void markOfSwap() {
        Check.sentence("one at the beginning of every swap, mint or burn that is done", "swap");
        marks("down", true, rich(), x -> x.swap(0, true, 1, -24));
        marks("up", true, rich(), x -> x.swap(0, false, 1, 24));
        marks("out", true, rich(), x -> x.swap(0, true, -1, -24));
        Pool pool = Check.openPool(1, 3, 0);
        pool.swap(0, true, 1, -3);
        for (int i = 0; i < 8; i++) {
            pool.advance(1);
            Check.due("one that moves no token", pool.swap(0, i % 2 == 1, 1, i % 2 == 1 ? -3 : 3), 0);
        }
        Check.due("one that moves no token makes a mark too", pool.observe(8), RangedPool.OLD);
    }

    private static void markOfMint() {
        Check.sentence("one at the beginning of every swap, mint or burn that is done", "mint");
        marks("a lot that is there", true, rich(), x -> x.mint(0, -24, 24, 1));
        Pool pool = rich();
        for (int i = 1; i <= 8; i++) {
            pool.advance(1);
            Check.yes("a new lot", pool.mint(1, -i, i + 1, 1) > 0);
        }
        Check.due("new lots", pool.observe(8), RangedPool.OLD);
    }

    private static void markOfBurn() {
        Check.sentence("one at the beginning of every swap, mint or burn that is done", "burn");
        marks("some", true, rich(), x -> x.burn(0, -24, 24, 1));
        marks("only settling", true, rich(), x -> x.burn(0, -24, 24, 0));
    }

    private static void noOtherMarks() {
        Check.sentence("one at the beginning of every swap, mint or burn that is done", "at nothing else");
        marks("fund", false, rich(), x -> x.fund(0, 0, 1) ? 1 : 0);
        marks("collect", false, rich(), x -> x.collect(0, -24, 24));
        marks("quote", false, rich(), x -> x.quote(true, 1, -24));
        marks("flash", false, rich(), x -> x.flash(0, 1, 1));
        marks("advance", false, rich(), x -> x.advance(0) ? 1 : 0);
        marks("observe", false, rich(), x -> x.observe(0));
        marks("lot", false, rich(), x -> x.lot(0, -24, 24, 0));
    }

    private static void noMarkOfRefusedCalls() {
        Check.sentence("one at the beginning of every swap, mint or burn that is done", "refused calls");
        marks("open again", false, rich(), x -> x.open(0) ? 1 : 0);
        marks("swap, BAD", false, rich(), x -> x.swap(0, true, 0, -24));
        marks("mint, BAD", false, rich(), x -> x.mint(0, -24, 24, 0));
        marks("mint, FULL", false, rich(), x -> x.mint(0, -24, 24, 1000000));
        marks("burn, NO_LOT", false, rich(), x -> x.burn(1, -24, 24, 0));
        marks("burn, BAD", false, rich(), x -> x.burn(0, -24, 24, 1001));
        marks("swap, POOR", false, poor(), x -> x.swap(1, true, 5, -24));
        marks("mint, POOR", false, poor(), x -> x.mint(1, -24, 24, 5));
    }

    private static Pool poor() {
        Pool pool = Check.openPool(1, 3, 1);
        pool.fund(0, 0, 1000000);
        pool.fund(0, 1, 1000000);
        Check.yes("mint", pool.mint(0, -24, 24, 1000) > 0);
        return pool;
    }

    /** Were the mark made behind the swap, the step before it would be lost. */
    private static void atTheBeginning() {
        Check.sentence("at the beginning of every swap, mint or burn");
        Pool pool = Check.openPool(1, 3, 4);
        pool.advance(3);
        pool.swap(0, true, 1, -4);
        pool.advance(2);
        Check.due("before the swap", pool.observe(3), 8);
        Check.due("at the swap", pool.observe(2), 12);
        Check.due("behind the swap", pool.observe(1), 8);
    }

    private static void oneMarkAtATime() {
        Check.sentence("unless the newest one was made at this time of the clock");
        Pool pool = rich();
        for (int i = 0; i < 20; i++) {
            pool.mint(0, -24, 24, 1);
            pool.swap(0, true, 1, -24);
            pool.burn(0, -24, 24, 1);
        }
        pool.advance(7);
        Check.due("that of the opening is there", pool.observe(7), 0);
        pool.advance(0);
        pool.burn(0, -24, 24, 0);
        for (int i = 0; i < 6; i++) {
            pool.advance(1);
            pool.burn(0, -24, 24, 0);
            pool.advance(0);
            pool.burn(0, -24, 24, 0);
        }
        Check.due("8 of them", pool.observe(13), 0);
    }

    private static void atMostEight() {
        Check.sentence("the oldest goes when there would be 9", "at most 8");
        Pool pool = Check.openPool(1, 3, 1);
        for (int mark = 2; mark <= 30; mark++) {
            pool.advance(10);
            int oldest = 10 * Math.min(mark - 1, 8);
            Check.due("mark " + mark + ": not yet", pool.observe(oldest), pool.observe(0) - sumOf(mark, oldest));
            pool.swap(0, mark % 2 == 1, 1, mark % 2 == 1 ? 1 : 2);
            int kept = 10 * Math.min(mark - 1, 7);
            Check.due("mark " + mark + ": the oldest", pool.observe(kept), pool.observe(0) - sumOf(mark, kept));
            Check.due("mark " + mark + ": before it", pool.observe(kept + 1), RangedPool.OLD);
        }
    }

    /** Step 1 and step 2 take turns, 10 ticks each; the last 10 were of step 1 when the mark has an even number. */
    private static long sumOf(int mark, int ticks) {
        long sum = 0;
        for (int i = 0; i < ticks / 10; i++) {
            sum += (mark - i) % 2 == 0 ? 10 : 20;
        }
        return sum;
    }

    private static void nineAtOneTimeAreOne() {
        Check.sentence("the oldest goes when there would be 9", "not when the newest was made at this time");
        Pool pool = Check.openPool(1, 3, 0);
        for (int i = 1; i <= 7; i++) {
            pool.advance(10);
            pool.swap(0, i % 2 == 0, 1, i % 2);
        }
        Check.due("8 marks", pool.observe(70), 0);
        for (int i = 0; i < 9; i++) {
            pool.swap(0, i % 2 == 0, 1, i % 2);
        }
        Check.due("8 marks still", pool.observe(70), 0);
        pool.advance(1);
        pool.swap(0, false, 1, 1);
        Check.due("the oldest went", pool.observe(71), RangedPool.OLD);
        Check.due("the second is there", pool.observe(61), 0);
    }
}
