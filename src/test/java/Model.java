import java.math.BigInteger;
import java.util.ArrayList;
import java.util.List;

/** The document written a second time, slowly and in another way, to compare RangedPool with. */
final class Model {
    private static final BigInteger TWO_TO_32 = BigInteger.ONE.shiftLeft(32);

    private static final class Lot {
        int owner;
        int lo;
        int hi;
        long liquidity;
        BigInteger[] owed = {BigInteger.ZERO, BigInteger.ZERO};
        BigInteger[] growth = {BigInteger.ZERO, BigInteger.ZERO};

        Lot copy() {
            Lot other = new Lot();
            other.owner = owner;
            other.lo = lo;
            other.hi = hi;
            other.liquidity = liquidity;
            other.owed = owed.clone();
            other.growth = growth.clone();
            return other;
        }

        void settle() {
            for (int token = 0; token < 2; token++) {
                owed[token] = owed[token].add(growth[token].multiply(BigInteger.valueOf(liquidity)).divide(TWO_TO_32));
                growth[token] = BigInteger.ZERO;
            }
        }
    }

    private final int spacing;
    private final int fee;
    private final long[][] wallet = new long[4][2];
    private final long[] reserve = new long[2];
    private final List<Integer> stepOfTick = new ArrayList<>();
    private final List<Long> marks = new ArrayList<>();
    private List<Lot> lots = new ArrayList<>();
    private boolean open;
    private long clock;
    private long openedAt;
    private int p;
    private int c;

    Model(int spacing, int fee) {
        this.spacing = List.of(1, 2, 3, 4, 6, 8).contains(spacing) ? spacing : 1;
        this.fee = fee < 0 || fee > 100 ? 3 : fee;
    }

    boolean open(int step) {
        if (open || Math.abs((long) step) > 24) {
            return false;
        }
        open = true;
        openedAt = clock;
        p = Check.stepPrice(step);
        c = step;
        mark();
        return true;
    }

    boolean fund(int owner, int token, int amount) {
        if (noOwner(owner) || (token != 0 && token != 1) || amount < 0 || amount > 1000000000) {
            return false;
        }
        wallet[owner][token] += amount;
        return true;
    }

    long mint(int owner, int lo, int hi, int liquidity) {
        if (!open) {
            return -1;
        }
        boolean range = lo >= -24 && hi <= 24 && lo < hi && lo % spacing == 0 && hi % spacing == 0;
        if (noOwner(owner) || !range || liquidity < 1 || liquidity > 1000000) {
            return -2;
        }
        Lot lot = find(owner, lo, hi);
        long all = liquidity;
        for (Lot other : lots) {
            all += other.liquidity;
        }
        if ((lot == null && lots.size() >= 10) || all > 1000000) {
            return -4;
        }
        long[] cost = worth(lo, hi, liquidity, true);
        if (wallet[owner][0] < cost[0] || wallet[owner][1] < cost[1]) {
            return -5;
        }
        mark();
        if (lot == null) {
            lot = new Lot();
            lot.owner = owner;
            lot.lo = lo;
            lot.hi = hi;
            lots.add(lot);
        }
        lot.settle();
        lot.liquidity += liquidity;
        for (int token = 0; token < 2; token++) {
            wallet[owner][token] -= cost[token];
            reserve[token] += cost[token];
        }
        return Check.pair(cost[0], cost[1]);
    }

    long burn(int owner, int lo, int hi, int liquidity) {
        Lot lot = find(owner, lo, hi);
        if (!open || lot == null) {
            return open ? -3 : -1;
        }
        if (liquidity < 0 || liquidity > lot.liquidity) {
            return -2;
        }
        mark();
        lot.settle();
        lot.liquidity -= liquidity;
        long[] worth = worth(lo, hi, liquidity, false);
        for (int token = 0; token < 2; token++) {
            lot.owed[token] = lot.owed[token].add(BigInteger.valueOf(worth[token]));
        }
        forgetGoneLots();
        return Check.pair(worth[0], worth[1]);
    }

    long collect(int owner, int lo, int hi) {
        Lot lot = find(owner, lo, hi);
        if (!open || lot == null) {
            return open ? -3 : -1;
        }
        BigInteger answer = lot.owed[0].multiply(TWO_TO_32).add(lot.owed[1]);
        for (int token = 0; token < 2; token++) {
            wallet[owner][token] += lot.owed[token].longValueExact();
            reserve[token] -= lot.owed[token].longValueExact();
            lot.owed[token] = BigInteger.ZERO;
        }
        forgetGoneLots();
        return answer.longValueExact();
    }

    long swap(int owner, boolean down, int amount, int limit) {
        if (!open) {
            return -1;
        }
        if (noOwner(owner)) {
            return -2;
        }
        return trade(owner, down, amount, limit);
    }

    long quote(boolean down, int amount, int limit) {
        return open ? trade(-1, down, amount, limit) : -1;
    }

    /** Owner -1: it is a quote. The state is put back when the swap is not to be done. */
    private long trade(int owner, boolean down, int amount, int limit) {
        if (amount == 0 || amount < -1000000 || amount > 1000000 || limit < -24 || limit > 24) {
            return -2;
        }
        int end = Check.stepPrice(limit);
        if (down ? end >= p : end <= p) {
            return -2;
        }
        int oldPrice = p;
        int oldStep = c;
        List<Lot> oldLots = new ArrayList<>();
        for (Lot lot : lots) {
            oldLots.add(lot.copy());
        }
        long[] flow = walk(down, amount, end);
        int in = down ? 0 : 1;
        boolean poor = owner >= 0 && wallet[owner][in] < flow[0];
        if (owner < 0 || poor) {
            p = oldPrice;
            c = oldStep;
            lots = oldLots;
            return poor ? -5 : Check.pair(flow[0], flow[1]);
        }
        mark();
        wallet[owner][in] -= flow[0];
        reserve[in] += flow[0];
        wallet[owner][1 - in] += flow[1];
        reserve[1 - in] -= flow[1];
        return Check.pair(flow[0], flow[1]);
    }

    private long[] walk(boolean down, long amount, int limit) {
        long[] flow = new long[2];
        long r = amount;
        while (r != 0 && p != limit) {
            Integer n = nextStep(down);
            int target = limit;
            if (n != null && Math.abs(Check.stepPrice(n) - p) < Math.abs(limit - p)) {
                target = Check.stepPrice(n);
            }
            long w = depth();
            int q = newPrice(down, r, w, target);
            long in = down ? Check.zero(q, p, w, true) : Check.one(p, q, w, true);
            long out = down ? Check.one(q, p, w, false) : Check.zero(p, q, w, false);
            if (r < 0 && out > -r) {
                out = -r;
            }
            long taken = r > 0 && q != target ? r - in
                : Check.divide(Check.product(in, fee), Check.product(1000 - fee), true);
            flow[0] += in + taken;
            flow[1] += out;
            r = r > 0 ? r - in - taken : r + out;
            takeFee(down ? 0 : 1, taken);
            boolean changed = p != q;
            p = q;
            if (n != null && q == Check.stepPrice(n)) {
                c = down ? n - 1 : n;
            } else if (changed) {
                c = -24;
                while (c < 24 && Check.stepPrice(c + 1) <= p) {
                    c++;
                }
            }
        }
        return flow;
    }

    private int newPrice(boolean down, long r, long w, int target) {
        if (r > 0) {
            long u = r * (1000 - fee) / 1000;
            long fullIn = down ? Check.zero(target, p, w, true) : Check.one(p, target, w, true);
            if (u >= fullIn) {
                return target;
            }
            BigInteger all = Check.product(w, 65536);
            return (int) (down
                ? Check.divide(Check.product(w, 65536, p), all.add(Check.product(u, p)), true)
                : p + Check.divide(Check.product(u, 65536), Check.product(w), false));
        }
        long v = -r;
        long fullOut = down ? Check.one(target, p, w, false) : Check.zero(p, target, w, false);
        if (v >= fullOut) {
            return target;
        }
        BigInteger all = Check.product(w, 65536);
        return (int) (down
            ? p - Check.divide(Check.product(v, 65536), Check.product(w), true)
            : Check.divide(Check.product(w, 65536, p), all.subtract(Check.product(v, p)), true));
    }

    private Integer nextStep(boolean down) {
        if (down) {
            for (int n = c; n >= -24; n--) {
                if (marked(n)) {
                    return n;
                }
            }
        } else {
            for (int n = c + 1; n <= 24; n++) {
                if (marked(n)) {
                    return n;
                }
            }
        }
        return null;
    }

    private boolean marked(int step) {
        for (Lot lot : lots) {
            if (lot.liquidity > 0 && (lot.lo == step || lot.hi == step)) {
                return true;
            }
        }
        return false;
    }

    long flash(int owner, int zero, int one) {
        if (!open) {
            return -1;
        }
        if (noOwner(owner) || zero < 0 || zero > 1000000 || zero > reserve[0]
            || one < 0 || one > 1000000 || one > reserve[1] || depth() == 0) {
            return -2;
        }
        long[] fees = {(zero * (long) fee + 999) / 1000, (one * (long) fee + 999) / 1000};
        if (wallet[owner][0] < fees[0] || wallet[owner][1] < fees[1]) {
            return -5;
        }
        for (int token = 0; token < 2; token++) {
            wallet[owner][token] -= fees[token];
            reserve[token] += fees[token];
            takeFee(token, fees[token]);
        }
        return Check.pair(fees[0], fees[1]);
    }

    boolean advance(int n) {
        if (n < 0 || n > 10000) {
            return false;
        }
        clock += n;
        for (int i = 0; i < n && open; i++) {
            stepOfTick.add(c);
        }
        return true;
    }

    long observe(int ago) {
        if (!open) {
            return -1;
        }
        if (ago < 0) {
            return -2;
        }
        if (clock - ago < marks.get(0)) {
            return -1000000000;
        }
        long sum = 0;
        for (int i = 0; i < clock - ago - openedAt; i++) {
            sum += stepOfTick.get(i);
        }
        return sum;
    }

    int price() {
        return p;
    }

    int step() {
        return c;
    }

    int depth() {
        long depth = 0;
        for (Lot lot : lots) {
            depth += lot.lo <= c && c < lot.hi ? lot.liquidity : 0;
        }
        return (int) depth;
    }

    long wallet(int owner, int token) {
        return noOwner(owner) || token < 0 || token > 1 ? -2 : wallet[owner][token];
    }

    long reserve(int token) {
        return token < 0 || token > 1 ? -2 : reserve[token];
    }

    long lot(int owner, int lo, int hi, int what) {
        Lot lot = find(owner, lo, hi);
        if (lot == null) {
            return -3;
        }
        if (what == 0) {
            return lot.liquidity;
        }
        return what == 1 || what == 2 ? lot.owed[what - 1].longValueExact() : -2;
    }

    int net(int step) {
        int net = 0;
        for (Lot lot : lots) {
            net += lot.lo == step ? lot.liquidity : 0;
            net -= lot.hi == step ? lot.liquidity : 0;
        }
        return net;
    }

    /** The owners and ranges of all lots, {owner, lo, hi} each. */
    List<int[]> lotNames() {
        List<int[]> names = new ArrayList<>();
        for (Lot lot : lots) {
            names.add(new int[] {lot.owner, lot.lo, lot.hi});
        }
        return names;
    }

    private static boolean noOwner(int owner) {
        return owner < 0 || owner > 3;
    }

    private Lot find(int owner, int lo, int hi) {
        for (Lot lot : lots) {
            if (lot.owner == owner && lot.lo == lo && lot.hi == hi) {
                return lot;
            }
        }
        return null;
    }

    private void forgetGoneLots() {
        lots.removeIf(lot -> lot.liquidity == 0 && lot.owed[0].signum() == 0 && lot.owed[1].signum() == 0);
    }

    private long[] worth(int lo, int hi, long liquidity, boolean up) {
        int low = Check.stepPrice(lo);
        int high = Check.stepPrice(hi);
        if (c < lo) {
            return new long[] {Check.zero(low, high, liquidity, up), 0};
        }
        if (c >= hi) {
            return new long[] {0, Check.one(low, high, liquidity, up)};
        }
        return new long[] {Check.zero(p, high, liquidity, up), Check.one(low, p, liquidity, up)};
    }

    private void takeFee(int token, long amount) {
        long depth = depth();
        if (depth == 0) {
            return;
        }
        BigInteger rise = BigInteger.valueOf(amount).multiply(TWO_TO_32).divide(BigInteger.valueOf(depth));
        for (Lot lot : lots) {
            if (lot.lo <= c && c < lot.hi) {
                lot.growth[token] = lot.growth[token].add(rise);
            }
        }
    }

    private void mark() {
        if (!marks.isEmpty() && marks.get(marks.size() - 1) == clock) {
            return;
        }
        marks.add(clock);
        if (marks.size() > 8) {
            marks.remove(0);
        }
    }
}
