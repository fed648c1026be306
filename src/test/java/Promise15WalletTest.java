/** Promise 15: wallet. */
public final class Promise15WalletTest {
    public static void main(String[] args) {
        RangedPool pool = new RangedPool(1, 3);
        pool.fund(2, 1, 77);
        for (int owner = 0; owner < 4; owner++) {
            Check.due("token 0 of " + owner, pool.wallet(owner, 0), 0);
            Check.due("token 1 of " + owner, pool.wallet(owner, 1), owner == 2 ? 77 : 0);
        }
        for (int wrong : new int[] {-1, 4, Integer.MIN_VALUE, Integer.MAX_VALUE}) {
            Check.due("owner " + wrong, pool.wallet(wrong, 0), RangedPool.BAD);
        }
        for (int wrong : new int[] {-1, 2, Integer.MIN_VALUE, Integer.MAX_VALUE}) {
            Check.due("token " + wrong, pool.wallet(0, wrong), RangedPool.BAD);
        }
        movesOfOneOwnerOnly();
        Check.end();
    }

    private static void movesOfOneOwnerOnly() {
        RangedPool pool = Check.richPool(1, 100, 0);
        pool.mint(1, -1, 1, 65536);
        pool.flash(2, 10, 20);
        pool.swap(3, true, -1000, -24);
        Check.due("owner 0, token 0", pool.wallet(0, 0), 1000000000);
        Check.due("owner 0, token 1", pool.wallet(0, 1), 1000000000);
        Check.due("owner 1, token 0", pool.wallet(1, 0), 1000000000 - 1599);
        Check.due("owner 1, token 1", pool.wallet(1, 1), 1000000000 - 1599);
        Check.due("owner 2, token 0", pool.wallet(2, 0), 1000000000 - 1);
        Check.due("owner 2, token 1", pool.wallet(2, 1), 1000000000 - 2);
        Check.due("owner 3, token 0", pool.wallet(3, 0), 1000000000 - 1129);
        Check.due("owner 3, token 1", pool.wallet(3, 1), 1000000000 + 1000);
    }
}
