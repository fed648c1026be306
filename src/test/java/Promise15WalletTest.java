/** Promise 15: wallet. */
public final class Promise15WalletTest {
    public static void main(String[] args) {
        howMany();
        ofOneOwnerOnly();
        noOwner();
        noToken();
        Check.end();
    }

    private static void howMany() {
        Check.sentence("How many of a token are in a wallet");
        Pool pool = new Pool(1, 3);
        pool.fund(2, 1, 77);
        for (int owner = 0; owner < 4; owner++) {
            Check.due("token 0 of " + owner, pool.wallet(owner, 0), 0);
            Check.due("token 1 of " + owner, pool.wallet(owner, 1), owner == 2 ? 77 : 0);
        }
        Check.unchanged("it only asks", pool, 77, x -> x.wallet(2, 1));
        pool.open(0);
        Check.due("open", pool.wallet(2, 1), 77);
    }

    private static void ofOneOwnerOnly() {
        Check.sentence("How many of a token are in a wallet", "calls of several owners");
        Pool pool = Check.richPool(1, 100, 0);
        pool.mint(1, -1, 1, 65536);
        pool.flash(2, 10, 20);
        pool.swap(3, true, -1000, -24);
        int[][] due = {{0, 0}, {-1599, -1599}, {-1, -2}, {-1129, 1000}};
        for (int owner = 0; owner < 4; owner++) {
            Check.due("token 0 of " + owner, pool.wallet(owner, 0), 1000000000 + due[owner][0]);
            Check.due("token 1 of " + owner, pool.wallet(owner, 1), 1000000000 + due[owner][1]);
        }
    }

    private static void noOwner() {
        Check.sentence("BAD when there is no such owner or token.", "wallet: owner");
        Pool pool = Check.richPool(1, 3, 0);
        for (int owner : Check.NO_OWNERS) {
            Check.refused("owner " + owner, pool, RangedPool.BAD, x -> x.wallet(owner, 0));
            Check.due("not open", new Pool(1, 3).wallet(owner, 1), RangedPool.BAD);
        }
        Check.due("the first", pool.wallet(0, 0), 1000000000);
        Check.due("the last", pool.wallet(3, 0), 1000000000);
    }

    private static void noToken() {
        Check.sentence("BAD when there is no such owner or token.", "wallet: token");
        Pool pool = Check.richPool(1, 3, 0);
        for (int token : Check.NO_TOKENS) {
            Check.refused("token " + token, pool, RangedPool.BAD, x -> x.wallet(0, token));
            Check.due("not open", new Pool(1, 3).wallet(3, token), RangedPool.BAD);
        }
        Check.due("the last", pool.wallet(0, 1), 1000000000);
    }
}
