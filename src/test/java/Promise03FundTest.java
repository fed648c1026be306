/** Promise 3: fund. */
public final class Promise03FundTest {
    public static void main(String[] args) {
        RangedPool pool = new RangedPool(1, 3);
        for (int owner = 0; owner < 4; owner++) {
            for (int token = 0; token < 2; token++) {
                Check.yes("fund", pool.fund(owner, token, 10 * owner + token));
            }
        }
        for (int owner = 0; owner < 4; owner++) {
            for (int token = 0; token < 2; token++) {
                Check.due("wallet " + owner + ", " + token, pool.wallet(owner, token), 10 * owner + token);
            }
        }
        Check.yes("nothing", pool.fund(0, 0, 0));
        for (int i = 0; i < 5; i++) {
            Check.yes("the most", pool.fund(3, 1, 1000000000));
        }
        Check.yes("after opening too", pool.open(0) && pool.fund(3, 1, 7));
        Check.due("wallet", pool.wallet(3, 1), 5000000038L);
        Check.due("reserve", pool.reserve(1), 0);
        wrong(pool);
        Check.end();
    }

    private static void wrong(RangedPool pool) {
        String before = Check.state(pool);
        for (int owner : new int[] {-1, 4, Integer.MIN_VALUE, Integer.MAX_VALUE}) {
            Check.no("owner " + owner, pool.fund(owner, 0, 1));
        }
        for (int token : new int[] {-1, 2, Integer.MIN_VALUE, Integer.MAX_VALUE}) {
            Check.no("token " + token, pool.fund(0, token, 1));
        }
        for (int amount : new int[] {-1, 1000000001, Integer.MIN_VALUE, Integer.MAX_VALUE}) {
            Check.no("amount " + amount, pool.fund(0, 0, amount));
        }
        Check.same("wrong funds", Check.state(pool), before);
    }
}
