/** The terms of a swap: the amount left, the next step, the target, the new price, what is paid and what goes out. */
public final class TermsSwapTest {
    private static final boolean DOWN = true;
    private static final boolean UP = false;

    public static void main(String[] args) {
        directions();
        upToTheLimit();
        amountIn();
        amountOut();
        whileAmountIsLeft();
        nextDownwards();
        nextUpwards();
        noNextStep();
        onlyMarkedSteps();
        target();
        fullIn();
        fullOut();
        usedAfterTheFee();
        priceDownByIn();
        priceUpByIn();
        priceDownByOut();
        priceUpByOut();
        inAndOut();
        atMostWhatIsWanted();
        feeIsTheRest();
        feeOfWhatIsIn();
        feeGoesToThisDepth();
        feesOfSeveralLegs();
        amountComesNearer();
        stepAtTheNext();
        stepElsewhere();
        stepStays();
        throughTenLots();
        Check.end();
    }

    private static Pool pool(int fee, int[]... lots) {
        Pool pool = Check.richPool(1, fee, 0);
        for (int[] lot : lots) {
            Check.yes("mint", pool.mint(0, lot[0], lot[1], lot[2]) > 0);
        }
        return pool;
    }

    /** A liquidity of 65536 from step -1 to step 1, and twice as much for two steps on either side. */
    private static Pool three() {
        return pool(0, new int[] {-1, 1, 65536}, new int[] {-3, -1, 131072}, new int[] {1, 3, 131072});
    }

    private static Pool everywhere(int fee, int liquidity) {
        return pool(fee, new int[] {-24, 24, liquidity});
    }

    private static Pool narrow(int fee, int liquidity) {
        return pool(fee, new int[] {-1, 1, liquidity});
    }

    /** A swap as far as it goes: what is paid in, what goes out, and where it ends. */
    private static void due(Pool pool, boolean down, int amount, long paid, long given, int price, int step) {
        dueTo(pool, down, amount, down ? -24 : 24, Check.pair(paid, given), price, step);
    }

    private static void dueTo(Pool pool, boolean down, int amount, int limit, long answer, int price, int step) {
        String call = "swap " + (down ? "down " : "up ") + amount + " to " + limit;
        Check.due(call, pool.swap(1, down, amount, limit), answer);
        Check.at(call, pool, price, step);
    }

    private static void directions() {
        Check.sentence("A SWAP goes DOWN (token 0 is paid in, token 1 goes out, prices fall)");
        Pool pool = everywhere(0, 65536);
        due(pool, DOWN, 1000, 1000, 984, 64552, -1);
        moved("down", pool, -1000, 984);
        Check.sentence("or UP (token 1 in, token 0 out, prices rise)");
        pool = everywhere(0, 65536);
        due(pool, UP, 1000, 1000, 984, 66536, 0);
        moved("up", pool, 984, -1000);
    }

    private static void moved(String what, Pool pool, int zero, int one) {
        Check.due(what + ": wallet 0", pool.wallet(1, 0), 1000000000 + zero);
        Check.due(what + ": wallet 1", pool.wallet(1, 1), 1000000000 + one);
        Check.due(what + ": reserve 0", pool.reserve(0), 29299 - zero);
        Check.due(what + ": reserve 1", pool.reserve(1), 29313 - one);
        Check.due(what + ": the lot's owner", pool.wallet(0, 0), 1000000000 - 29299);
    }

    private static void upToTheLimit() {
        Check.sentence("up to the LIMIT, a step price");
        for (int amount : new int[] {1000000, -1000000, 3319, -3159}) {
            dueTo(everywhere(0, 65536), DOWN, amount, -2, Check.pair(3319, 3159), 62377, -2);
        }
        dueTo(everywhere(0, 65536), DOWN, 3318, -2, Check.pair(3318, 3158), 62378, -2);
        dueTo(everywhere(0, 65536), DOWN, -3158, -2, Check.pair(3318, 3158), 62378, -2);
        for (int amount : new int[] {1000000, -1000000, 3317, -3157}) {
            dueTo(everywhere(0, 65536), UP, amount, 2, Check.pair(3317, 3157), 68853, 2);
        }
        dueTo(everywhere(0, 65536), UP, 3316, 2, Check.pair(3316, 3156), 68852, 1);
        dueTo(everywhere(0, 65536), UP, -3156, 2, Check.pair(3316, 3156), 68852, 1);
    }

    private static void amountIn() {
        Check.sentence("above 0 so many are to be paid in, fees and all");
        for (int fee : new int[] {0, 3, 100}) {
            for (int amount : new int[] {1, 2, 999, 20000}) {
                Check.due("down " + amount, everywhere(fee, 65536).quote(DOWN, amount, -24) >> 32, amount);
                Check.due("up " + amount, everywhere(fee, 65536).quote(UP, amount, 24) >> 32, amount);
            }
        }
    }

    private static void amountOut() {
        Check.sentence("below 0 so many are to go out");
        for (int fee : new int[] {0, 3, 100}) {
            for (int amount : new int[] {1, 2, 999, 20000}) {
                Check.due("down " + amount, (int) everywhere(fee, 65536).quote(DOWN, -amount, -24), amount);
                Check.due("up " + amount, (int) everywhere(fee, 65536).quote(UP, -amount, 24), amount);
            }
        }
    }

    private static void whileAmountIsLeft() {
        Check.sentence("While the amount left is not 0 and p is not the limit");
        due(three(), DOWN, 1639, 1639, 1599, 63937, -2);
        due(three(), DOWN, 1640, 1640, 1599, 63937, -2);
        due(three(), DOWN, -1599, 1639, 1599, 63937, -2);
        due(three(), DOWN, -1600, 1642, 1600, 63936, -2);
        due(three(), UP, 1638, 1638, 1598, 67174, 1);
        due(three(), UP, 1640, 1640, 1599, 67175, 1);
        due(three(), UP, -1598, 1638, 1598, 67174, 1);
        due(three(), UP, -1599, 1640, 1599, 67175, 1);
        dueTo(three(), DOWN, 1000000, -1, Check.pair(1639, 1599), 63937, -2);
        dueTo(three(), UP, 1000000, 1, Check.pair(1638, 1598), 67174, 1);
    }

    private static void nextDownwards() {
        Check.sentence("The NEXT step n is, downwards, the greatest marked step that is at most c");
        Pool pool = three();
        due(pool, UP, 2638, 2638, 2542, 67674, 1);
        due(pool, DOWN, -1001, 946, 1001, 67173, 0);
        Check.due("c itself was the next", pool.depth(), 65536);
        pool = three();
        due(pool, UP, 1638, 1638, 1598, 67174, 1);
        due(pool, DOWN, 1, 1, 1, 67173, 0);
        pool = three();
        due(pool, UP, 1638, 1638, 1598, 67174, 1);
        due(pool, DOWN, -1, 1, 1, 67173, 0);
        pool = three();
        due(pool, DOWN, -1599 - 6164, 1639 + 6805, 1599 + 6164, 60855, -4);
        pool = pool(0, new int[] {-4, -2, 65536});
        due(pool, DOWN, -1, 2, 1, 62376, -3);
        Check.due("hi was the next, from above", pool.depth(), 65536);
    }

    private static void nextUpwards() {
        Check.sentence("upwards the least marked step that is above c");
        Pool pool = pool(0, new int[] {0, 2, 65536}, new int[] {1, 3, 65536});
        due(pool, UP, 10, 10, 9, 65546, 0);
        due(pool, UP, 1628 + 20, 1648, 1588 + 19, 67184, 1);
        Check.due("c + 1 was the next", pool.depth(), 131072);
        pool = three();
        due(pool, DOWN, -1599, 1639, 1599, 63937, -2);
        due(pool, UP, 1, 1, 1, 63938, -1);
        pool = three();
        due(pool, DOWN, -1599, 1639, 1599, 63937, -2);
        due(pool, UP, -1, 1, 1, 63938, -1);
        pool = three();
        due(pool, UP, 1638 + 6800, 1638 + 6800, 1598 + 6160, 70574, 3);
        pool = pool(0, new int[] {2, 4, 65536});
        due(pool, UP, 1, 1, 0, 68854, 2);
        Check.due("lo was the next, from below", pool.depth(), 65536);
    }

    private static void noNextStep() {
        Check.sentence("when there is none, there is no next step");
        for (int amount : new int[] {1, 1000000, -1, -1000000}) {
            dueTo(pool(0), DOWN, amount, -24, 0, 36223, -24);
            dueTo(pool(0), UP, amount, 24, 0, 118522, 24);
            dueTo(pool(100, new int[] {2, 3, 65536}), DOWN, amount, -4, 0, 59370, -4);
            dueTo(pool(100, new int[] {-3, -2, 65536}), UP, amount, 4, 0, 72338, 4);
        }
    }

    private static void onlyMarkedSteps() {
        Check.sentence("A step is MARKED when it is lo or hi of a lot with liquidity.");
        Pool pool = pool(0, new int[] {-2, 2, 65536}, new int[] {-1, 1, 65536});
        Check.due("all but 1", pool.burn(0, -1, 1, 65535), Check.pair(1598, 1598));
        dueTo(pool.again(), DOWN, 1000000, -1, Check.pair(1640, 1599), 63937, -2);
        Check.due("the last 1", pool.burn(0, -1, 1, 1), 0);
        Check.due("still there", pool.lot(0, -1, 1, 0), 0);
        dueTo(pool.again(), DOWN, 1000000, -1, Check.pair(1639, 1599), 63937, -1);
        dueTo(pool.again(), UP, 1000000, 1, Check.pair(1638, 1598), 67174, 1);
        pool.mint(2, -1, 3, 1);
        dueTo(pool.again(), DOWN, 1000000, -1, Check.pair(1640, 1599), 63937, -2);
    }

    private static void target() {
        Check.sentence("The TARGET is the nearer one to p of P(n) and the limit, the limit if there is no next step.");
        int[] lot = {-3, 3, 65536};
        dueTo(pool(0, lot), DOWN, 1000000, -2, Check.pair(3319, 3159), 62377, -2);
        dueTo(pool(0, lot), DOWN, 1000000, -3, Check.pair(5042, 4681), 60855, -4);
        dueTo(pool(0, lot), DOWN, 1000000, -4, Check.pair(5042, 4681), 59370, -4);
        dueTo(pool(0, lot), UP, 1000000, 2, Check.pair(3317, 3157), 68853, 2);
        dueTo(pool(0, lot), UP, 1000000, 3, Check.pair(5038, 4678), 70574, 3);
        dueTo(pool(0, lot), UP, 1000000, 4, Check.pair(5038, 4678), 72338, 4);
    }

    /** From step 0, 750.01 must be paid in down to step -1, 749.8 up to step 1. */
    private static void fullIn() {
        Check.sentence("If u is FULL IN or more, the new price q is the target.", "FULL IN is rounded up");
        due(narrow(0, 30000), DOWN, 751, 751, 731, 63937, -2);
        due(narrow(0, 30000), DOWN, 750, 750, 731, 63938, -1);
        due(narrow(0, 30000), UP, 750, 750, 731, 67174, 1);
        due(narrow(0, 30000), UP, 749, 749, 730, 67172, 0);
    }

    /** From step 0, 731.9 of token 1 go out down to step -1, 731.5 of token 0 up to step 1. */
    private static void fullOut() {
        Check.sentence("If v is FULL OUT or more, q is the target.", "FULL OUT is rounded down");
        due(narrow(0, 30000), DOWN, -731, 751, 731, 63937, -2);
        due(narrow(0, 30000), DOWN, -730, 749, 730, 63941, -1);
        due(narrow(0, 30000), UP, -731, 750, 731, 67174, 1);
        due(narrow(0, 30000), UP, -730, 749, 730, 67171, 0);
        due(narrow(0, 30000), DOWN, -732, 751, 731, 36223, -24);
        due(narrow(0, 30000), UP, -732, 750, 731, 118522, 24);
    }

    /** 834 less a tenth is 750.6, 833 less a tenth is 749.7. */
    private static void usedAfterTheFee() {
        Check.sentence("r above 0: let u be r * (1000 - FEE) / 1000 rounded down.");
        due(narrow(100, 30000), DOWN, 834, 834, 731, 63938, -1);
        due(narrow(100, 30000), DOWN, 835, 835, 731, 63937, -2);
        due(narrow(100, 30000), UP, 833, 833, 730, 67172, 0);
        due(narrow(100, 30000), UP, 834, 834, 731, 67174, 1);
        due(narrow(100, 36000), UP, 999, 999, 876, 67172, 0);
        due(narrow(100, 36000), UP, 1000, 1000, 877, 67174, 1);
    }

    private static void priceDownByIn() {
        Check.sentence("Otherwise q is, downwards, w * 65536 * p / (w * 65536 + u * p) rounded up");
        due(everywhere(0, 65536), DOWN, 1000, 1000, 984, 64552, -1);
        due(everywhere(0, 31), DOWN, 1, 1, 0, 63488, -2);
        due(everywhere(3, 65536), DOWN, 1, 1, 0, 65536, 0);
        due(everywhere(0, 1000000), DOWN, 1, 1, 0, 65536, 0);
        due(everywhere(0, 1000000), DOWN, 809237, 809237, 447265, 36224, -24);
        due(everywhere(0, 1000000), DOWN, 809238, 809238, 447280, 36223, -25);
    }

    private static void priceUpByIn() {
        Check.sentence("upwards, p + u * 65536 / w, that quotient rounded down");
        due(everywhere(0, 30000), UP, 1, 1, 0, 65538, 0);
        due(everywhere(0, 65537), UP, 1, 1, 0, 65536, 0);
        due(everywhere(0, 65536), UP, 1, 1, 0, 65537, 0);
        due(everywhere(0, 1000000), UP, 808502, 808502, 447051, 118521, 23);
        due(everywhere(0, 1000000), UP, 808503, 808503, 447056, 118522, 24);
    }

    private static void priceDownByOut() {
        Check.sentence("Otherwise q is, downwards, p - v * 65536 / w, that quotient rounded up");
        due(everywhere(0, 65535), DOWN, -1, 3, 1, 65534, -1);
        due(everywhere(0, 65536), DOWN, -1, 2, 1, 65535, -1);
        due(everywhere(0, 65537), DOWN, -1, 2, 1, 65535, -1);
        due(everywhere(0, 1000), DOWN, -1, 2, 1, 65470, -1);
    }

    private static void priceUpByOut() {
        Check.sentence("upwards, w * 65536 * p / (w * 65536 - v * p) rounded up");
        due(everywhere(0, 65536), UP, -1000, 1016, 1000, 66552, 0);
        due(everywhere(0, 33), UP, -1, 2, 1, 67584, 1);
        due(everywhere(0, 1000000), UP, -1, 16, 1, 65537, 0);
    }

    /** 31 * 2048 / 65536 is 0.97; 33 * 2048 / 65536 is 1.03. */
    private static void inAndOut() {
        Check.sentence("IN is what must be paid in from p to q, rounded up, OUT what goes out on that way, rounded down");
        due(everywhere(0, 31), DOWN, 1, 1, 0, 63488, -2);
        due(everywhere(0, 33), UP, -1, 2, 1, 67584, 1);
        dueTo(everywhere(0, 65536), DOWN, 1000000, -1, Check.pair(1639, 1599), 63937, -1);
        dueTo(everywhere(0, 65537), DOWN, 1000000, -1, Check.pair(1640, 1599), 63937, -1);
        dueTo(everywhere(0, 33587), UP, 1000000, 1, Check.pair(840, 819), 67174, 1);
        dueTo(everywhere(0, 33586), UP, 1000000, 1, Check.pair(840, 818), 67174, 1);
    }

    /** With a liquidity of 1000000 one price more or less is worth 15 tokens. */
    private static void atMostWhatIsWanted() {
        Check.sentence("when r is below 0, at most v goes out");
        due(everywhere(0, 1000000), DOWN, -1, 16, 1, 65535, -1);
        due(everywhere(0, 1000000), DOWN, -15, 16, 15, 65535, -1);
        due(everywhere(0, 1000000), DOWN, -16, 31, 16, 65534, -1);
        due(everywhere(0, 1000000), UP, -1, 16, 1, 65537, 0);
        due(everywhere(0, 1000000), UP, -15, 16, 15, 65537, 0);
        due(everywhere(0, 1000000), UP, -16, 31, 16, 65538, 0);
    }

    private static void feeIsTheRest() {
        Check.sentence("The FEE TAKEN, of the token paid in, is r - IN when r is above 0 and q is not the target");
        Pool pool = everywhere(0, 65536);
        due(pool, DOWN, 1000, 1000, 984, 64552, -1);
        Check.settled("999 were needed, although FEE is 0", pool, new int[] {0, -24, 24}, 1, 0);
        pool = everywhere(3, 65536);
        due(pool, DOWN, 1, 1, 0, 65536, 0);
        Check.settled("all of it", pool, new int[] {0, -24, 24}, 1, 0);
        due(pool, UP, 1, 1, 0, 65536, 0);
        Check.settled("all of it, of token 1", pool, new int[] {0, -24, 24}, 1, 1);
        pool = everywhere(100, 65536);
        due(pool, UP, 1009, 1009, 895, 66444, 0);
        Check.settled("908 were needed", pool, new int[] {0, -24, 24}, 0, 101);
    }

    /** Of 900 in, 100 is the fee exactly; of 901, 100.1. Growth for a liquidity of 65536 has no rest. */
    private static void feeOfWhatIsIn() {
        Check.sentence("otherwise IN * FEE / (1000 - FEE) rounded up");
        due(narrow(100, 36000), UP, 1001, 1000, 877, 118522, 24);
        due(narrow(100, 36000), UP, -877, 1000, 877, 67174, 1);
        due(narrow(100, 36000), UP, -876, 999, 876, 67171, 0);
        due(narrow(100, 36030), UP, 1003, 1002, 878, 118522, 24);
        due(narrow(100, 36030), UP, -878, 1002, 878, 67174, 1);
        due(narrow(0, 36030), UP, -878, 901, 878, 67174, 1);
        Pool pool = everywhere(100, 65536);
        due(pool, DOWN, -1000, 1016 + 113, 1000, 64536, -1);
        Check.settled("1016 * 100 / 900", pool, new int[] {0, -24, 24}, 113, 0);
        dueTo(pool, DOWN, 1000000, -1, Check.pair(624 + 70, 599), 63937, -1);
        Check.settled("624 * 100 / 900", pool, new int[] {0, -24, 24}, 113 + 70, 0);
    }

    private static void feeGoesToThisDepth() {
        Check.sentence("the fee is taken (DEPTH being w)");
        Pool pool = pool(100, new int[] {-1, 1, 32768}, new int[] {-1, 2, 32768}, new int[] {-3, -1, 131072});
        dueTo(pool, DOWN, 1000000, -1, Check.pair(1639 + 183, 1599), 63937, -2);
        Check.settled("half", pool, new int[] {0, -1, 1}, 91, 0);
        Check.settled("half", pool, new int[] {0, -1, 2}, 91, 0);
        Check.settled("beyond the step that was reached", pool, new int[] {0, -3, -1}, 0, 0);
        dueTo(pool, DOWN, 1000000, -2, Check.pair(3360 + 374, 3120), 62377, -2);
        Check.settled("left behind", pool, new int[] {0, -1, 1}, 91, 0);
        Check.settled("all of it", pool, new int[] {0, -3, -1}, 374, 0);
    }

    /** The wide lot gets half of the first fee and all of the second. */
    private static void feesOfSeveralLegs() {
        Check.sentence("the fee is taken (DEPTH being w)", "on every leg");
        Pool pool = pool(100, new int[] {-1, 1, 32768}, new int[] {-3, 1, 32768});
        dueTo(pool, DOWN, 1000000, -3, Check.pair(1639 + 183 + 1702 + 190, 1599 + 1541), 60855, -4);
        Check.settled("half", pool, new int[] {0, -1, 1}, 91, 0);
        Check.settled("half, and all", pool, new int[] {0, -3, 1}, 281, 0);
        pool = pool(100, new int[] {-1, 1, 32768}, new int[] {-1, 3, 32768});
        dueTo(pool, UP, 1000000, 3, Check.pair(1638 + 182 + 1700 + 189, 1598 + 1540), 70574, 3);
        Check.settled("half", pool, new int[] {0, -1, 1}, 0, 91);
        Check.settled("half, and all", pool, new int[] {0, -1, 3}, 0, 91 + 189);
    }

    /** 1639 and a fee of 183 to step -1; beyond it 89 are worth 84, with a fee of 11 or 10. */
    private static void amountComesNearer() {
        Check.sentence("the amount left comes nearer to 0 by IN and the fee, or by OUT");
        int[][] lots = {{-1, 1, 65536}, {-3, -1, 131072}};
        due(pool(100, lots), DOWN, 1822, 1822, 1599, 63937, -2);
        due(pool(100, lots), DOWN, 1822 + 100, 1922, 1599 + 84, 63895, -2);
        due(pool(100, lots), DOWN, -1599, 1822, 1599, 63937, -2);
        due(pool(100, lots), DOWN, -1599 - 84, 1822 + 99, 1599 + 84, 63895, -2);
    }

    private static void stepAtTheNext() {
        Check.sentence("If q is the price of the next step n, c is n - 1 downwards, n upwards.");
        due(three(), DOWN, -1599, 1639, 1599, 63937, -2);
        due(three(), UP, -1598, 1638, 1598, 67174, 1);
        due(narrow(0, 1000000), DOWN, -24397, 25009, 24397, 63937, -2);
        due(narrow(0, 1000000), UP, -24384, 24994, 24384, 67174, 1);
        Pool pool = everywhere(0, 65536);
        due(pool, DOWN, -1000000, 53035, 29313, 36223, -25);
        Check.due("depth", pool.depth(), 0);
        due(pool, UP, 1, 1, 3, 36224, -24);
        due(pool, UP, -1000000, 82298, 82329, 118522, 24);
        Check.due("depth", pool.depth(), 0);
    }

    private static void stepElsewhere() {
        Check.sentence("Otherwise, if p has changed, c is the greatest step whose price is at most p.");
        due(everywhere(0, 65536), DOWN, -1598, 1638, 1598, 63938, -1);
        due(everywhere(0, 65536), DOWN, -1599, 1639, 1599, 63937, -1);
        due(everywhere(0, 65536), DOWN, -1600, 1641, 1600, 63936, -2);
        due(everywhere(0, 65536), UP, 1637, 1637, 1597, 67173, 0);
        due(everywhere(0, 65536), UP, 1638, 1638, 1598, 67174, 1);
        due(everywhere(0, 65536), UP, 1639, 1639, 1599, 67175, 1);
        dueTo(pool(0), DOWN, 1, -24, 0, 36223, -24);
        dueTo(pool(0), UP, 1, 24, 0, 118522, 24);
    }

    /** The step is one below the price's own step, as the marked step 0 was crossed; then it is marked no more. */
    private static void stepStays() {
        Check.sentence("if p has changed");
        Pool pool = Check.richPool(1, 3, 1);
        pool.mint(0, 0, 2, 1000);
        dueTo(pool, DOWN, 1000000, 0, Check.pair(26, 24), 65536, -1);
        pool.burn(0, 0, 2, 1000);
        pool.mint(0, -1, 1, 1000);
        due(pool, UP, 1, 1, 0, 65536, -1);
        due(pool, UP, 2, 2, 0, 65601, 0);
    }

    /** The most marked steps that there can be: 20, all crossed by one swap, and back. */
    private static void throughTenLots() {
        Check.sentence("There are at most 10 lots");
        Pool pool = Check.richPool(1, 0, 0);
        for (int i = 0; i < 10; i++) {
            Check.yes("lot " + i, pool.mint(0, i - 20, i + 11, 6553) > 0);
        }
        Check.due("in range of all", pool.depth(), 65530);
        due(pool, DOWN, -1000000, 30820, 20727, 36223, -24);
        Check.due("below all", pool.depth(), 0);
        due(pool, UP, 1000000, 51530, 51528, 118522, 24);
        Check.due("above all", pool.depth(), 0);
        due(pool, DOWN, -1000000, 51547, 51511, 36223, -24);
    }
}
