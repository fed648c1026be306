/**
 * A pool of two tokens, 0 and 1, with liquidity that owners put in for ranges of prices.
 * What each call must do stands in the document, as numbered promises.
 *
 * Everything that an object needs is made in its constructor; no later call makes an object.
 */
public final class RangedPool {
    public static final int CLOSED = -1;
    public static final int BAD = -2;
    public static final int NO_LOT = -3;
    public static final int FULL = -4;
    public static final int POOR = -5;
    public static final int OLD = -1000000000;

    private static final int OWNERS = 4;
    private static final int TOKENS = 2;
    private static final int MAX_LOTS = 10;
    private static final int MAX_MARKS = 8;
    private static final int MAX_LIQUIDITY = 1000000;
    private static final int MAX_FUNDING = 1000000000;
    private static final int MAX_AMOUNT = 1000000;
    private static final int MAX_TICKS = 10000;
    private static final int MAX_FEE = 100;
    private static final int DEFAULT_FEE = 3;
    private static final int DEFAULT_SPACING = 1;
    private static final int LOWEST_STEP = -24;
    private static final int HIGHEST_STEP = 24;
    private static final int NO_STEP = 1000;

    /** A swap passes each of the 49 steps at most once; this is more than it can need. */
    private static final int MAX_LEGS = 64;

    /** The price that stands for 1. */
    private static final long UNIT = 65536L;

    /** What a fee is a part of. */
    private static final long WHOLE = 1000L;

    /** The growth that is worth one token to one liquidity, and the place of the first of two amounts in an answer. */
    private static final long TWO_TO_32 = 4294967296L;

    /** P(-24) .. P(24): written out, so that no object has to hold them. */
    private static final int[] STEP_PRICES = {
        36223, 37129, 38058, 39010, 39986, 40986, 42011, 43062, 44139, 45243, 46375, 47535,
        48724, 49943, 51192, 52472, 53784, 55129, 56508, 57921, 59370, 60855, 62377, 63937,
        65536,
        67174, 68853, 70574, 72338, 74146, 75999, 77898, 79845, 81841, 83887, 85984, 88133,
        90336, 92594, 94908, 97280, 99712, 102204, 104759, 107377, 110061, 112812, 115632, 118522
    };

    private final int spacing;
    private final int fee;
    private final long[][] wallets = new long[OWNERS][TOKENS];
    private final long[] reserves = new long[TOKENS];
    private final LotBook book = new LotBook();
    private final History history = new History();
    private final Trade trade;
    private boolean opened;
    private int currentPrice;
    private int currentStep;

    public RangedPool(int spacing, int fee) {
        this.spacing = isSpacing(spacing) ? spacing : DEFAULT_SPACING;
        this.fee = fee >= 0 && fee <= MAX_FEE ? fee : DEFAULT_FEE;
        this.trade = new Trade(this.fee);
    }

    public boolean open(int step) {
        if (opened || !isStep(step)) {
            return false;
        }
        opened = true;
        currentPrice = priceOf(step);
        currentStep = step;
        history.mark(step);
        return true;
    }

    public boolean fund(int owner, int token, int amount) {
        if (!isOwner(owner) || !isToken(token) || amount < 0 || amount > MAX_FUNDING) {
            return false;
        }
        wallets[owner][token] += amount;
        return true;
    }

    public long mint(int owner, int lo, int hi, int liquidity) {
        if (!opened) {
            return CLOSED;
        }
        if (!isOwner(owner) || !isRange(lo, hi) || liquidity < 1 || liquidity > MAX_LIQUIDITY) {
            return BAD;
        }
        Lot lot = book.findOrFree(owner, lo, hi);
        if (lot == null || book.totalLiquidity() + liquidity > MAX_LIQUIDITY) {
            return FULL;
        }
        long zero = zeroOfRange(lo, hi, liquidity, true);
        long one = oneOfRange(lo, hi, liquidity, true);
        if (!canPay(owner, zero, one)) {
            return POOR;
        }
        history.mark(currentStep);
        pay(owner, zero, one);
        if (!lot.isThere()) {
            lot.begin(owner, lo, hi);
        }
        lot.settle();
        lot.liquidity += liquidity;
        return pair(zero, one);
    }

    public long burn(int owner, int lo, int hi, int liquidity) {
        if (!opened) {
            return CLOSED;
        }
        Lot lot = book.find(owner, lo, hi);
        if (lot == null) {
            return NO_LOT;
        }
        if (liquidity < 0 || liquidity > lot.liquidity) {
            return BAD;
        }
        history.mark(currentStep);
        long zero = zeroOfRange(lo, hi, liquidity, false);
        long one = oneOfRange(lo, hi, liquidity, false);
        lot.settle();
        lot.liquidity -= liquidity;
        lot.owed[0] += zero;
        lot.owed[1] += one;
        return pair(zero, one);
    }

    public long collect(int owner, int lo, int hi) {
        if (!opened) {
            return CLOSED;
        }
        Lot lot = book.find(owner, lo, hi);
        if (lot == null) {
            return NO_LOT;
        }
        long zero = lot.owed[0];
        long one = lot.owed[1];
        lot.owed[0] = 0;
        lot.owed[1] = 0;
        pay(owner, -zero, -one);
        return pair(zero, one);
    }

    public long swap(int owner, boolean down, int amount, int limit) {
        if (!opened) {
            return CLOSED;
        }
        if (!isOwner(owner) || !isTrade(down, amount, limit)) {
            return BAD;
        }
        trade.startAt(currentPrice, currentStep, down);
        trade.workOut(book, amount, priceOf(limit));
        int tokenIn = trade.tokenIn();
        if (wallets[owner][tokenIn] < trade.paid) {
            return POOR;
        }
        history.mark(currentStep);
        transfer(owner, tokenIn, trade.paid);
        transfer(owner, 1 - tokenIn, -trade.given);
        book.keepPendingGrowth(tokenIn);
        currentPrice = trade.price;
        currentStep = trade.step;
        return pair(trade.paid, trade.given);
    }

    public long quote(boolean down, int amount, int limit) {
        if (!opened) {
            return CLOSED;
        }
        if (!isTrade(down, amount, limit)) {
            return BAD;
        }
        trade.startAt(currentPrice, currentStep, down);
        trade.workOut(book, amount, priceOf(limit));
        return pair(trade.paid, trade.given);
    }

    public long flash(int owner, int zero, int one) {
        if (!opened) {
            return CLOSED;
        }
        long depth = book.depthAt(currentStep);
        if (!isOwner(owner) || !canLend(0, zero) || !canLend(1, one) || depth == 0) {
            return BAD;
        }
        long zeroFee = quotient((long) zero * fee, WHOLE, true);
        long oneFee = quotient((long) one * fee, WHOLE, true);
        if (!canPay(owner, zeroFee, oneFee)) {
            return POOR;
        }
        pay(owner, zeroFee, oneFee);
        takeFee(0, zeroFee, depth);
        takeFee(1, oneFee, depth);
        return pair(zeroFee, oneFee);
    }

    public boolean advance(int n) {
        if (n < 0 || n > MAX_TICKS) {
            return false;
        }
        history.tick(n, currentStep);
        return true;
    }

    public long observe(int ago) {
        if (!opened) {
            return CLOSED;
        }
        if (ago < 0) {
            return BAD;
        }
        long time = history.clock - ago;
        return history.reaches(time) ? history.sumAt(time, currentStep) : OLD;
    }

    public int price() {
        return currentPrice;
    }

    public int step() {
        return currentStep;
    }

    public int depth() {
        return (int) book.depthAt(currentStep);
    }

    public long wallet(int owner, int token) {
        return isOwner(owner) && isToken(token) ? wallets[owner][token] : BAD;
    }

    public long reserve(int token) {
        return isToken(token) ? reserves[token] : BAD;
    }

    public long lot(int owner, int lo, int hi, int what) {
        Lot lot = book.find(owner, lo, hi);
        if (lot == null) {
            return NO_LOT;
        }
        switch (what) {
            case 0:
                return lot.liquidity;
            case 1:
                return lot.owed[0];
            case 2:
                return lot.owed[1];
            default:
                return BAD;
        }
    }

    public int net(int step) {
        return (int) book.netAt(step);
    }

    private static boolean isSpacing(int spacing) {
        return spacing >= 1 && spacing <= 8 && spacing != 5 && spacing != 7;
    }

    private static boolean isStep(int step) {
        return step >= LOWEST_STEP && step <= HIGHEST_STEP;
    }

    private static boolean isOwner(int owner) {
        return owner >= 0 && owner < OWNERS;
    }

    private static boolean isToken(int token) {
        return token >= 0 && token < TOKENS;
    }

    private boolean isRange(int lo, int hi) {
        return isStep(lo) && isStep(hi) && lo < hi && lo % spacing == 0 && hi % spacing == 0;
    }

    private boolean isTrade(boolean down, int amount, int limit) {
        if (amount == 0 || amount < -MAX_AMOUNT || amount > MAX_AMOUNT || !isStep(limit)) {
            return false;
        }
        return down ? priceOf(limit) < currentPrice : priceOf(limit) > currentPrice;
    }

    private boolean canLend(int token, int amount) {
        return amount >= 0 && amount <= MAX_AMOUNT && amount <= reserves[token];
    }

    private boolean canPay(int owner, long zero, long one) {
        return wallets[owner][0] >= zero && wallets[owner][1] >= one;
    }

    /** From the owner's wallet to the reserves; amounts below 0 go the other way. */
    private void pay(int owner, long zero, long one) {
        transfer(owner, 0, zero);
        transfer(owner, 1, one);
    }

    private void transfer(int owner, int token, long amount) {
        wallets[owner][token] -= amount;
        reserves[token] += amount;
    }

    private void takeFee(int token, long amount, long depth) {
        book.clearPendingGrowth();
        book.growPending(currentStep, amount, depth);
        book.keepPendingGrowth(token);
    }

    private long zeroOfRange(int lo, int hi, long liquidity, boolean up) {
        if (currentStep >= hi) {
            return 0;
        }
        int from = currentStep < lo ? priceOf(lo) : currentPrice;
        return zeroBetween(from, priceOf(hi), liquidity, up);
    }

    private long oneOfRange(int lo, int hi, long liquidity, boolean up) {
        if (currentStep < lo) {
            return 0;
        }
        int to = currentStep >= hi ? priceOf(hi) : currentPrice;
        return oneBetween(priceOf(lo), to, liquidity, up);
    }

    /** ZERO, for low <= high. */
    private static long zeroBetween(long low, long high, long liquidity, boolean up) {
        return quotient(liquidity * UNIT * (high - low), low * high, up);
    }

    /** ONE, for low <= high. */
    private static long oneBetween(long low, long high, long liquidity, boolean up) {
        return quotient(liquidity * (high - low), UNIT, up);
    }

    /** Of numbers not below 0. No divisor below 1 is ever handed in; it is looked at all the same. */
    private static long quotient(long dividend, long divisor, boolean up) {
        if (divisor < 1) {
            return 0;
        }
        long down = dividend / divisor;
        return up && dividend % divisor != 0 ? down + 1 : down;
    }

    private static long pair(long first, long second) {
        return first * TWO_TO_32 + second;
    }

    /** P(step), for a step that is one. */
    private static int priceOf(int step) {
        return STEP_PRICES[step - LOWEST_STEP];
    }

    private static int greatestStepAt(int price) {
        int step = HIGHEST_STEP;
        while (step >= LOWEST_STEP && priceOf(step) > price) {
            step--;
        }
        return step;
    }

    /** A place for a lot, used again when the lot is gone. */
    private static final class Lot {
        private int owner;
        private int lo;
        private int hi;
        private long liquidity;
        private final long[] owed = new long[TOKENS];
        private final long[] growth = new long[TOKENS];
        /** Growth from a fee that may yet turn out not to be taken. */
        private long pending;

        private boolean isThere() {
            return liquidity != 0 || owed[0] != 0 || owed[1] != 0;
        }

        private boolean isFor(int anOwner, int aLo, int aHi) {
            return owner == anOwner && lo == aLo && hi == aHi;
        }

        private boolean isInRange(int step) {
            return lo <= step && step < hi;
        }

        private void begin(int anOwner, int aLo, int aHi) {
            owner = anOwner;
            lo = aLo;
            hi = aHi;
        }

        /** Also clears the growth that the place of a new lot had before: with no liquidity yet, it adds nothing. */
        private void settle() {
            for (int token = 0; token < TOKENS; token++) {
                owed[token] += growth[token] * liquidity / TWO_TO_32;
                growth[token] = 0;
            }
        }
    }

    /** All the lots. */
    private static final class LotBook {
        private final Lot[] lots = new Lot[MAX_LOTS];

        private LotBook() {
            for (int i = 0; i < MAX_LOTS; i++) {
                lots[i] = new Lot();
            }
        }

        private Lot find(int owner, int lo, int hi) {
            for (Lot lot : lots) {
                if (lot.isThere() && lot.isFor(owner, lo, hi)) {
                    return lot;
                }
            }
            return null;
        }

        /** The lot, or a free place for it, or null when there is neither. */
        private Lot findOrFree(int owner, int lo, int hi) {
            Lot found = find(owner, lo, hi);
            for (int i = 0; i < MAX_LOTS && found == null; i++) {
                if (!lots[i].isThere()) {
                    found = lots[i];
                }
            }
            return found;
        }

        private long totalLiquidity() {
            long total = 0;
            for (Lot lot : lots) {
                total += lot.liquidity;
            }
            return total;
        }

        private long depthAt(int step) {
            long depth = 0;
            for (Lot lot : lots) {
                if (lot.isInRange(step)) {
                    depth += lot.liquidity;
                }
            }
            return depth;
        }

        private long netAt(int step) {
            long net = 0;
            for (Lot lot : lots) {
                if (lot.lo == step) {
                    net += lot.liquidity;
                }
                if (lot.hi == step) {
                    net -= lot.liquidity;
                }
            }
            return net;
        }

        /** The greatest marked step that is at most the given one, or NO_STEP. */
        private int markedAtOrBelow(int step) {
            int best = NO_STEP;
            for (Lot lot : lots) {
                if (lot.liquidity == 0 || lot.lo > step) {
                    continue;
                }
                int end = lot.hi <= step ? lot.hi : lot.lo;
                best = best == NO_STEP || end > best ? end : best;
            }
            return best;
        }

        /** The least marked step above the given one, or NO_STEP. */
        private int markedAbove(int step) {
            int best = NO_STEP;
            for (Lot lot : lots) {
                if (lot.liquidity == 0 || lot.hi <= step) {
                    continue;
                }
                int end = lot.lo > step ? lot.lo : lot.hi;
                best = best == NO_STEP || end < best ? end : best;
            }
            return best;
        }

        private void clearPendingGrowth() {
            for (Lot lot : lots) {
                lot.pending = 0;
            }
        }

        private void growPending(int step, long fee, long depth) {
            long rise = quotient(fee * TWO_TO_32, depth, false);
            for (Lot lot : lots) {
                if (lot.isInRange(step)) {
                    lot.pending += rise;
                }
            }
        }

        private void keepPendingGrowth(int token) {
            for (Lot lot : lots) {
                lot.growth[token] += lot.pending;
            }
        }
    }

    /** A swap, worked out beside the pool: only the pending growth of the lots is touched. */
    private static final class Trade {
        private final int fee;
        private boolean down;
        private int limit;
        private long left;
        private int price;
        private int step;
        private long paid;
        private long given;

        private Trade(int fee) {
            this.fee = fee;
        }

        private int tokenIn() {
            return down ? 0 : 1;
        }

        private void startAt(int fromPrice, int fromStep, boolean goesDown) {
            price = fromPrice;
            step = fromStep;
            down = goesDown;
            paid = 0;
            given = 0;
        }

        private void workOut(LotBook book, int amount, int limitPrice) {
            left = amount;
            limit = limitPrice;
            book.clearPendingGrowth();
            for (int legs = 0; legs < MAX_LEGS && left != 0 && price != limit; legs++) {
                goOneLeg(book);
            }
        }

        private void goOneLeg(LotBook book) {
            int next = down ? book.markedAtOrBelow(step) : book.markedAbove(step);
            int target = targetBefore(next);
            long depth = book.depthAt(step);
            int newPrice = left > 0 ? priceAfterPaying(depth, target) : priceAfterTaking(depth, target);
            long in = amountIn(depth, newPrice);
            long out = amountOut(depth, newPrice);
            if (left < 0) {
                out = Math.min(out, -left);
            }
            boolean takesTheRest = left > 0 && newPrice != target;
            long feeTaken = takesTheRest ? left - in : quotient(in * fee, WHOLE - fee, true);
            paid += in + feeTaken;
            given += out;
            left += left > 0 ? -(in + feeTaken) : out;
            book.growPending(step, feeTaken, depth);
            moveTo(newPrice, next);
        }

        private int targetBefore(int next) {
            if (next == NO_STEP) {
                return limit;
            }
            return down ? Math.max(priceOf(next), limit) : Math.min(priceOf(next), limit);
        }

        private int priceAfterPaying(long depth, int target) {
            long net = left * (WHOLE - fee) / WHOLE;
            if (net >= amountIn(depth, target)) {
                return target;
            }
            if (down) {
                return (int) quotient(depth * UNIT * price, depth * UNIT + net * price, true);
            }
            return (int) (price + quotient(net * UNIT, depth, false));
        }

        private int priceAfterTaking(long depth, int target) {
            long wanted = -left;
            if (wanted >= amountOut(depth, target)) {
                return target;
            }
            if (down) {
                return (int) (price - quotient(wanted * UNIT, depth, true));
            }
            return (int) quotient(depth * UNIT * price, depth * UNIT - wanted * price, true);
        }

        private long amountIn(long depth, int to) {
            return down ? zeroBetween(to, price, depth, true) : oneBetween(price, to, depth, true);
        }

        private long amountOut(long depth, int to) {
            return down ? oneBetween(to, price, depth, false) : zeroBetween(price, to, depth, false);
        }

        private void moveTo(int newPrice, int next) {
            boolean moved = newPrice != price;
            price = newPrice;
            if (next != NO_STEP && newPrice == priceOf(next)) {
                step = down ? next - 1 : next;
            } else if (moved) {
                step = greatestStepAt(newPrice);
            }
        }
    }

    /** The clock, the sum and the marks of time, the oldest mark first. */
    private static final class History {
        private long clock;
        private long sum;
        private int marks;
        private final long[] times = new long[MAX_MARKS];
        private final long[] sums = new long[MAX_MARKS];
        /** The step that held up to the mark, since the one before it. */
        private final int[] stepsBefore = new int[MAX_MARKS];

        private void tick(int n, int step) {
            clock += n;
            sum += (long) step * n;
        }

        private void mark(int step) {
            if (marks > 0 && times[marks - 1] == clock) {
                return;
            }
            if (marks == MAX_MARKS) {
                dropOldest();
            }
            times[marks] = clock;
            sums[marks] = sum;
            stepsBefore[marks] = step;
            marks++;
        }

        private void dropOldest() {
            for (int i = 1; i < MAX_MARKS; i++) {
                times[i - 1] = times[i];
                sums[i - 1] = sums[i];
                stepsBefore[i - 1] = stepsBefore[i];
            }
            marks--;
        }

        private boolean reaches(long time) {
            return marks > 0 && time >= times[0];
        }

        /** The step only changes at a mark, so one step holds from the first mark after the time back to it. */
        private long sumAt(long time, int stepNow) {
            long laterTime = clock;
            long laterSum = sum;
            int held = stepNow;
            for (int i = marks - 1; i >= 0 && times[i] > time; i--) {
                laterTime = times[i];
                laterSum = sums[i];
                held = stepsBefore[i];
            }
            return laterSum - held * (laterTime - time);
        }
    }
}
