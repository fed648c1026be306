import java.util.List;
import java.util.Random;

/**
 * Runs drawn with fixed seeds, on RangedPool and on the Model; every answer is compared. No run goes beyond 512 calls:
 * after as many calls as are drawn, the rest of the 512 asks for the whole state, and empties the pool.
 */
public final class RandomRunsTest {
    private static final int RUNS = 3000;
    /** What comparing the state and emptying the pool can need. */
    private static final int LAST_CALLS = 190;
    private static final int[] WILD =
        {Integer.MIN_VALUE, -1000000000, -25, -1, 0, 1, 25, 1000000000, Integer.MAX_VALUE};

    private final Random random;
    private final int run;
    private final Pool pool;
    private final Model model;
    private final int spacing;
    /** Small numbers in some runs, so that every rounding and every poor wallet comes up. */
    private final int scale;
    private final long[] funded = new long[2];
    private String call = "";

    private RandomRunsTest(int run) {
        this.run = run;
        random = new Random(run);
        int[] spacings = {1, 2, 3, 4, 6, 8, 5, 0};
        int drawn = spacings[random.nextInt(8)];
        int fee = random.nextInt(3) == 0 ? random.nextInt(104) - 1 : new int[] {0, 3, 10, 100}[random.nextInt(4)];
        spacing = drawn == 5 || drawn == 0 ? 1 : drawn;
        scale = new int[] {10, 1000, 100000, 1000000}[random.nextInt(4)];
        pool = new Pool(drawn, fee);
        model = new Model(drawn, fee);
    }

    public static void main(String[] args) {
        for (int run = 0; run < RUNS; run++) {
            new RandomRunsTest(run).go();
        }
        Check.end();
    }

    private void go() {
        int openAfter = random.nextInt(12);
        int calls = random.nextInt(Pool.MOST_CALLS - LAST_CALLS);
        for (int i = 0; pool.callsLeft() > Pool.MOST_CALLS - calls; i++) {
            if (i == openAfter) {
                open();
            } else {
                oneCall(random.nextInt(110));
            }
        }
        compareState();
        closeDown();
    }

    private void oneCall(int kind) {
        if (kind < 10) {
            fund();
        } else if (kind < 28) {
            mint();
        } else if (kind < 38) {
            burn();
        } else if (kind < 46) {
            collect();
        } else if (kind < 72) {
            trade();
        } else if (kind < 80) {
            flash();
        } else if (kind < 90) {
            advance();
        } else if (kind < 98) {
            observe();
        } else if (kind < 100) {
            open();
        } else {
            ask();
        }
    }

    private void open() {
        int step = step();
        call = "open(" + step + ")";
        compare(pool.open(step), model.open(step));
    }

    private void ask() {
        int owner = owner();
        int token = random.nextInt(4) - 1;
        int[] name = lotName();
        int what = random.nextInt(5) - 1;
        int step = step();
        call = "questions";
        compare(pool.price(), model.price());
        compare(pool.step(), model.step());
        compare(pool.depth(), model.depth());
        compare(pool.wallet(owner, token), model.wallet(owner, token));
        compare(pool.reserve(token), model.reserve(token));
        compare(pool.lot(name[0], name[1], name[2], what), model.lot(name[0], name[1], name[2], what));
        compare(pool.net(step), model.net(step));
    }

    private int step() {
        return random.nextInt(40) == 0 ? random.nextInt(60) - 30 : random.nextInt(49) - 24;
    }

    private int rangeEnd() {
        if (random.nextInt(30) == 0) {
            return random.nextInt(60) - 30;
        }
        int reach = random.nextBoolean() ? 24 / spacing : Math.min(24 / spacing, 3);
        return spacing * (random.nextInt(2 * reach + 1) - reach);
    }

    private int owner() {
        return random.nextInt(40) == 0 ? random.nextInt(8) - 2 : random.nextInt(4);
    }

    private int amount(int most) {
        int kind = random.nextInt(30);
        if (kind == 0) {
            return WILD[random.nextInt(WILD.length)];
        }
        return kind < 8 ? random.nextInt(5) : random.nextInt(Math.min(scale, most) + 2);
    }

    private int[] lotName() {
        List<int[]> names = model.lotNames();
        if (names.isEmpty() || random.nextInt(20) == 0) {
            return new int[] {owner(), rangeEnd(), rangeEnd()};
        }
        return names.get(random.nextInt(names.size()));
    }

    private void fund() {
        int owner = owner();
        int token = random.nextInt(40) == 0 ? random.nextInt(5) - 1 : random.nextInt(2);
        int amount = amount(1000000000);
        call = "fund(" + owner + ", " + token + ", " + amount + ")";
        boolean done = model.fund(owner, token, amount);
        compare(pool.fund(owner, token, amount), done);
        if (done) {
            funded[token] += amount;
        }
    }

    private void mint() {
        int[] name = random.nextInt(3) == 0 ? lotName() : new int[] {owner(), rangeEnd(), rangeEnd()};
        int liquidity = amount(random.nextInt(10) == 0 ? 1000000 : 200000);
        call = "mint(" + name[0] + ", " + name[1] + ", " + name[2] + ", " + liquidity + ")";
        compare(pool.mint(name[0], name[1], name[2], liquidity), model.mint(name[0], name[1], name[2], liquidity));
    }

    private void burn() {
        int[] name = lotName();
        long has = Math.max(0, model.lot(name[0], name[1], name[2], 0));
        int[] choices = {0, (int) has, (int) has / 2, (int) has + 1, 1, amount(1000000)};
        int liquidity = choices[random.nextInt(choices.length)];
        call = "burn(" + name[0] + ", " + name[1] + ", " + name[2] + ", " + liquidity + ")";
        compare(pool.burn(name[0], name[1], name[2], liquidity), model.burn(name[0], name[1], name[2], liquidity));
    }

    private void collect() {
        int[] name = lotName();
        call = "collect(" + name[0] + ", " + name[1] + ", " + name[2] + ")";
        compare(pool.collect(name[0], name[1], name[2]), model.collect(name[0], name[1], name[2]));
    }

    private void trade() {
        int owner = owner();
        boolean down = random.nextBoolean();
        int amount = (random.nextBoolean() ? 1 : -1) * amount(1000000);
        int limit = random.nextInt(3) == 0 ? rangeEnd() : random.nextInt(3) == 0 ? step() : down ? -24 : 24;
        call = "quote(" + down + ", " + amount + ", " + limit + ")";
        compare(pool.quote(down, amount, limit), model.quote(down, amount, limit));
        call = "swap(" + owner + ", " + down + ", " + amount + ", " + limit + ")";
        compare(pool.swap(owner, down, amount, limit), model.swap(owner, down, amount, limit));
    }

    private void flash() {
        int owner = owner();
        int zero = amount(1000000);
        int one = amount(1000000);
        if (random.nextInt(4) == 0) {
            zero = (int) model.reserve(0) + random.nextInt(2);
            one = (int) model.reserve(1) + (random.nextInt(4) == 0 ? 1 : 0);
        }
        call = "flash(" + owner + ", " + zero + ", " + one + ")";
        compare(pool.flash(owner, zero, one), model.flash(owner, zero, one));
    }

    private void advance() {
        int n = random.nextInt(15) == 0 ? amount(10000) : random.nextInt(12);
        call = "advance(" + n + ")";
        compare(pool.advance(n), model.advance(n));
    }

    private void observe() {
        int ago = random.nextInt(15) == 0 ? amount(20000) : random.nextInt(70);
        call = "observe(" + ago + ")";
        compare(pool.observe(ago), model.observe(ago));
    }

    /** Every lot can be paid out, and no token comes or goes: the roundings favour the pool. */
    private void closeDown() {
        for (int[] name : model.lotNames()) {
            int has = (int) model.lot(name[0], name[1], name[2], 0);
            call = "the last burn and collect";
            compare(pool.burn(name[0], name[1], name[2], has), model.burn(name[0], name[1], name[2], has));
            compare(pool.collect(name[0], name[1], name[2]), model.collect(name[0], name[1], name[2]));
        }
        for (int token = 0; token < 2; token++) {
            long held = pool.reserve(token);
            Check.yes(where() + "reserve " + token + " is not below 0", held >= 0);
            for (int owner = 0; owner < 4; owner++) {
                held += pool.wallet(owner, token);
            }
            Check.due(where() + "all of token " + token, held, funded[token]);
        }
    }

    private String where() {
        return "run " + run + ": " + call + ": ";
    }

    private void compare(boolean got, boolean want) {
        compare(got ? 1 : 0, want ? 1 : 0);
    }

    private void compare(long got, long want) {
        Check.due(where() + "answer", got, want);
    }

    private void compareState() {
        call = "the state";
        compare(pool.price(), model.price());
        compare(pool.step(), model.step());
        compare(pool.depth(), model.depth());
        for (int token = 0; token < 2; token++) {
            compare(pool.reserve(token), model.reserve(token));
            for (int owner = 0; owner < 4; owner++) {
                compare(pool.wallet(owner, token), model.wallet(owner, token));
            }
        }
        for (int[] name : model.lotNames()) {
            for (int what = 0; what < 3; what++) {
                compare(pool.lot(name[0], name[1], name[2], what), model.lot(name[0], name[1], name[2], what));
            }
        }
        for (int step = -24; step <= 24; step++) {
            compare(pool.net(step), model.net(step));
        }
        for (int ago = 0; ago < 50; ago += 1 + ago / 8) {
            compare(pool.observe(ago), model.observe(ago));
        }
    }
}
