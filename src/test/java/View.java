import java.util.ArrayList;
import java.util.List;

/**
 * What the face can show after the calls of a pool: what can be asked at once (of observe and quote, which have too
 * many arguments, a choice), and what later calls would answer, which shows growth not yet settled, the marks of time,
 * and how much room there is for lots.
 */
final class View {
    private static final List<String> NAMES = new ArrayList<>();
    private static final List<Pool.Call> QUESTIONS = new ArrayList<>();
    /** {owner, lo, hi} of every lot that could be, in the order in which they are asked. */
    private static final List<int[]> LOT_NAMES = new ArrayList<>();
    private static final int FIRST_LOT_QUESTION;

    static {
        askPlain();
        askObserve();
        askQuote();
        FIRST_LOT_QUESTION = QUESTIONS.size();
        askLots();
    }

    private final long[] answers = new long[QUESTIONS.size()];
    private final List<int[]> lots = new ArrayList<>();
    private final List<String> later = new ArrayList<>();

    private View(Pool pool) {
        askAll(pool);
        int liquidity = findLots();
        settleAll(pool.again());
        fillUpLots(pool.again());
        fillUpLiquidity(pool.again(), liquidity);
        passTime(pool.again());
    }

    static View of(Pool pool) {
        return new View(pool);
    }

    /** The first answer that is not the same, or null. */
    String differenceFrom(View other) {
        for (int i = 0; i < answers.length; i++) {
            if (answers[i] != other.answers[i]) {
                return NAMES.get(i) + " was " + other.answers[i] + ", is " + answers[i];
            }
        }
        for (int i = 0; i < later.size() && i < other.later.size(); i++) {
            if (!later.get(i).equals(other.later.get(i))) {
                return "later " + other.later.get(i) + ", now " + later.get(i);
            }
        }
        return null;
    }

    private static void ask(String name, Pool.Call question) {
        NAMES.add(name);
        QUESTIONS.add(question);
    }

    private static void askPlain() {
        ask("price()", RangedPool::price);
        ask("step()", RangedPool::step);
        ask("depth()", RangedPool::depth);
        for (int token = -1; token <= 2; token++) {
            int t = token;
            ask("reserve(" + t + ")", x -> x.reserve(t));
            for (int owner = -1; owner <= 4; owner++) {
                int o = owner;
                ask("wallet(" + o + ", " + t + ")", x -> x.wallet(o, t));
            }
        }
        for (int step = -26; step <= 26; step++) {
            int s = step;
            ask("net(" + s + ")", x -> x.net(s));
        }
    }

    private static void askObserve() {
        for (int ago = -1; ago <= 60; ago++) {
            int a = ago;
            ask("observe(" + a + ")", x -> x.observe(a));
        }
        for (int ago : new int[] {9999, 10000, 10001, 19999, 20000, 20001, Integer.MAX_VALUE}) {
            ask("observe(" + ago + ")", x -> x.observe(ago));
        }
    }

    private static void askQuote() {
        for (int amount : new int[] {1, 37, 1000, 1000000, -1, -37, -1000, -1000000}) {
            for (int limit = -24; limit <= 24; limit++) {
                int l = limit;
                ask("quote(true, " + amount + ", " + l + ")", x -> x.quote(true, amount, l));
                ask("quote(false, " + amount + ", " + l + ")", x -> x.quote(false, amount, l));
            }
        }
    }

    private static void askLots() {
        for (int owner = 0; owner < 4; owner++) {
            for (int lo = -24; lo < 24; lo++) {
                for (int hi = lo + 1; hi <= 24; hi++) {
                    askLot(owner, lo, hi);
                }
            }
        }
    }

    private static void askLot(int owner, int lo, int hi) {
        LOT_NAMES.add(new int[] {owner, lo, hi});
        for (int what = 0; what < 3; what++) {
            int w = what;
            ask("lot(" + owner + ", " + lo + ", " + hi + ", " + w + ")", x -> x.lot(owner, lo, hi, w));
        }
    }

    private void askAll(Pool pool) {
        Pool asked = pool.again();
        for (int i = 0; i < answers.length; i++) {
            if (asked.callsLeft() == 0) {
                asked = pool.again();
            }
            answers[i] = asked.answer(QUESTIONS.get(i));
        }
    }

    /** Answers the liquidity of all. */
    private int findLots() {
        int liquidity = 0;
        for (int i = 0; i < LOT_NAMES.size(); i++) {
            long answer = answers[FIRST_LOT_QUESTION + 3 * i];
            if (answer >= 0) {
                lots.add(LOT_NAMES.get(i));
                liquidity += (int) answer;
            }
        }
        return liquidity;
    }

    private void tell(String name, long answer) {
        later.add(name + " would answer " + answer);
    }

    private void settleAll(Pool pool) {
        for (int[] lot : lots) {
            String name = lot[0] + ", " + lot[1] + ", " + lot[2];
            tell("burn(" + name + ", 0)", pool.burn(lot[0], lot[1], lot[2], 0));
            tell("lot(" + name + ", 1)", pool.lot(lot[0], lot[1], lot[2], 1));
            tell("lot(" + name + ", 2)", pool.lot(lot[0], lot[1], lot[2], 2));
        }
    }

    /** These ranges are ranges whatever SPACING is. */
    private void fillUpLots(Pool pool) {
        enrich(pool);
        for (int owner = 0; owner < 4; owner++) {
            tell("mint below 0 for " + owner, pool.mint(owner, -24, 0, 1));
            tell("mint above 0 for " + owner, pool.mint(owner, 0, 24, 1));
            tell("mint everywhere for " + owner, pool.mint(owner, -24, 24, 1));
        }
    }

    private void fillUpLiquidity(Pool pool, int liquidity) {
        enrich(pool);
        int[] lot = lots.isEmpty() ? new int[] {3, -24, 24} : lots.get(0);
        tell("mint of 1 too much", pool.mint(lot[0], lot[1], lot[2], 1000001 - liquidity));
        tell("mint of all the rest", pool.mint(lot[0], lot[1], lot[2], 1000000 - liquidity));
    }

    private void passTime(Pool pool) {
        tell("open(0)", pool.open(0) ? 1 : 0);
        enrich(pool);
        for (int round = 1; round <= 9; round++) {
            pool.advance(1);
            tell("swap down, round " + round, pool.swap(3, true, 1, -24));
            tell("swap up, round " + round, pool.swap(3, false, 1, 24));
            for (int ago = 0; ago <= 16; ago++) {
                tell("observe(" + ago + "), round " + round, pool.observe(ago));
            }
        }
    }

    private static void enrich(Pool pool) {
        for (int owner = 0; owner < 4; owner++) {
            pool.fund(owner, 0, 1000000000);
            pool.fund(owner, 1, 1000000000);
        }
    }
}
