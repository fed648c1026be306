import java.util.ArrayList;
import java.util.List;

/**
 * A RangedPool that keeps its calls in mind. No answer is promised after the 512th call, so a test that would make
 * more is refused here; what needs more is asked of new objects, on which the same calls are made again.
 */
final class Pool {
    static final int MOST_CALLS = 512;

    /** A call; true counts 1, false 0. */
    interface Call {
        long on(RangedPool object);
    }

    private final int spacing;
    private final int fee;
    private final RangedPool object;
    private final List<Call> calls = new ArrayList<>();

    Pool(int spacing, int fee) {
        this.spacing = spacing;
        this.fee = fee;
        object = new RangedPool(spacing, fee);
    }

    Pool again() {
        Pool other = new Pool(spacing, fee);
        for (Call call : calls) {
            other.answer(call);
        }
        return other;
    }

    int callsLeft() {
        return MOST_CALLS - calls.size();
    }

    long answer(Call call) {
        if (callsLeft() == 0) {
            throw new IllegalStateException("a test makes more calls on one object than the document allows");
        }
        calls.add(call);
        return call.on(object);
    }

    boolean open(int step) {
        return answer(x -> x.open(step) ? 1 : 0) == 1;
    }

    boolean fund(int owner, int token, int amount) {
        return answer(x -> x.fund(owner, token, amount) ? 1 : 0) == 1;
    }

    long mint(int owner, int lo, int hi, int liquidity) {
        return answer(x -> x.mint(owner, lo, hi, liquidity));
    }

    long burn(int owner, int lo, int hi, int liquidity) {
        return answer(x -> x.burn(owner, lo, hi, liquidity));
    }

    long collect(int owner, int lo, int hi) {
        return answer(x -> x.collect(owner, lo, hi));
    }

    long swap(int owner, boolean down, int amount, int limit) {
        return answer(x -> x.swap(owner, down, amount, limit));
    }

    long quote(boolean down, int amount, int limit) {
        return answer(x -> x.quote(down, amount, limit));
    }

    long flash(int owner, int zero, int one) {
        return answer(x -> x.flash(owner, zero, one));
    }

    boolean advance(int n) {
        return answer(x -> x.advance(n) ? 1 : 0) == 1;
    }

    long observe(int ago) {
        return answer(x -> x.observe(ago));
    }

    int price() {
        return (int) answer(RangedPool::price);
    }

    int step() {
        return (int) answer(RangedPool::step);
    }

    int depth() {
        return (int) answer(RangedPool::depth);
    }

    long wallet(int owner, int token) {
        return answer(x -> x.wallet(owner, token));
    }

    long reserve(int token) {
        return answer(x -> x.reserve(token));
    }

    long lot(int owner, int lo, int hi, int what) {
        return answer(x -> x.lot(owner, lo, hi, what));
    }

    int net(int step) {
        return (int) answer(x -> x.net(step));
    }
}
