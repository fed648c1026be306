/** Promise 3: fund. */
public final class Promise03FundTest {
    private static final int MOST = 1000000000;

    public static void main(String[] args) {
        comesIntoAWallet();
        beyondAnInt();
        noOwnerOrToken();
        amounts();
        Check.end();
    }

    private static void comesIntoAWallet() {
        Check.sentence("So many of a token come into a wallet. Answers true");
        Pool pool = new Pool(1, 3);
        fundAll(pool, "not open");
        pool.open(0);
        fundAll(pool, "open");
        for (int owner = 0; owner < 4; owner++) {
            Check.due("token 0 of " + owner, pool.wallet(owner, 0), 20 * owner + 2);
            Check.due("token 1 of " + owner, pool.wallet(owner, 1), 20 * owner + 4);
        }
        Check.due("reserve 0", pool.reserve(0), 0);
        Check.due("reserve 1", pool.reserve(1), 0);
    }

    private static void fundAll(Pool pool, String when) {
        for (int owner = 0; owner < 4; owner++) {
            Check.yes(when + ": fund " + owner, pool.fund(owner, 0, 10 * owner + 1));
            Check.yes(when + ": fund " + owner, pool.fund(owner, 1, 10 * owner + 2));
        }
    }

    private static void beyondAnInt() {
        Check.sentence("So many of a token come into a wallet");
        Pool pool = new Pool(1, 3);
        for (int i = 0; i < 511; i++) {
            Check.yes("fund " + i, pool.fund(3, 1, MOST));
        }
        Check.due("511 times the most", pool.wallet(3, 1), 511000000000L);
    }

    private static void noOwnerOrToken() {
        Check.sentence("false when there is no such owner or token");
        Pool pool = Check.richPool(1, 3, 0);
        for (int owner : Check.NO_OWNERS) {
            Check.refused("owner " + owner, pool, 0, x -> x.fund(owner, 0, 1) ? 1 : 0);
        }
        for (int token : Check.NO_TOKENS) {
            Check.refused("token " + token, pool, 0, x -> x.fund(0, token, 1) ? 1 : 0);
        }
        Check.yes("the first of both", pool.fund(0, 0, 1));
        Check.yes("the last of both", pool.fund(3, 1, 1));
    }

    private static void amounts() {
        Check.sentence("or the amount is not 0 .. 1000000000");
        Pool pool = Check.openPool(1, 3, 0);
        for (int amount : new int[] {-1, MOST + 1, Integer.MIN_VALUE, Integer.MAX_VALUE}) {
            Check.refused("amount " + amount, pool, 0, x -> x.fund(0, 0, amount) ? 1 : 0);
        }
        Check.unchanged("amount 0 is done, and adds nothing", pool, 1, x -> x.fund(0, 0, 0) ? 1 : 0);
        Check.yes("the most", pool.fund(0, 0, MOST));
        Check.due("wallet", pool.wallet(0, 0), MOST);
    }
}
