/** Terms, BALANCES: each place ordered makes its transfer, if there is enough. */
public final class TermBalancesTest {
    private static final Check CHECK = new Check("TermBalances");

    public static void main(String[] args) {
        tooSmallByOneIsNothing();
        whatCameInMayBePaidOut();
        whatComesInLaterIsTooLate();
        toTheSameAccount();
        notOrderedNotMade();
        eachNodeHasItsOwn();
        forgedTransfersAreMadeToo();
        CHECK.end();
    }

    /** With three nodes and coins 0, places are ordered 0, 1, 2, 4, 5, 6, .. */
    private static WaveLedger ended(int[][] transfers) {
        WaveLedger x = new WaveLedger(6, 0, 3);
        for (int[] t : transfers) {
            x.transfer(t[0], t[1], t[2], t[3]);
        }
        x.begin();
        Play.settle(x);
        return x;
    }

    private static void tooSmallByOneIsNothing() {
        WaveLedger x = ended(new int[][] {{0, 0, 1, 60}, {1, 0, 2, 41}, {2, 0, 3, 40}});
        CHECK.due("100 - 60 is 40: 41 not, 40 made", "0 160 100 140", Play.balancesOf(x, 0));
    }

    private static void whatCameInMayBePaidOut() {
        WaveLedger x = ended(new int[][] {{0, 0, 1, 99}, {1, 1, 2, 99}, {2, 1, 3, 99}, {0, 1, 3, 2}, {1, 1, 3, 1}});
        CHECK.due("199 pays 99 twice, and 1", "1 0 199 200", Play.balancesOf(x, 1));
    }

    private static void whatComesInLaterIsTooLate() {
        WaveLedger x = ended(new int[][] {{0, 0, 1, 99}, {1, 0, 1, 50}, {2, 2, 0, 50}});
        CHECK.due("50 of 1 is not made, and not later", "51 199 50 100", Play.balancesOf(x, 2));
    }

    private static void toTheSameAccount() {
        WaveLedger x = ended(new int[][] {{0, 3, 3, 99}, {1, 3, 0, 99}, {2, 3, 3, 99}, {0, 3, 3, 1}, {1, 3, 1, 1}});
        CHECK.due("it stays", "199 101 100 0", Play.balancesOf(x, 0));
    }

    /** The last leader is place 32; rounds 9 (but for it) to 12 are not ordered. */
    private static void notOrderedNotMade() {
        WaveLedger x = new WaveLedger(6, 0, 3);
        for (int i = 0; i < 8; i++) {
            x.transfer(0, 0, 0, 1);
            x.transfer(1, 1, 1, 1);
        }
        x.transfer(0, 0, 3, 7);
        x.transfer(1, 1, 3, 9);
        x.transfer(0, 0, 3, 20);
        x.begin();
        Play.settle(x);
        CHECK.due("place 32 has it", 7003, x.vertex(x.graph(0, 32), 2));
        CHECK.due("place 33 has it", 9013, x.vertex(x.graph(0, 33), 2));
        CHECK.due("balances", "93 100 100 107", Play.balancesOf(x, 0));
    }

    private static void eachNodeHasItsOwn() {
        Guided g = new Guided(CHECK, 1, 0, 3);
        g.transfer(0, 0, 1, 25);
        g.begin();
        g.all((kind, from, to, v) -> g.placeOf(v) < 12);
        g.all((kind, from, to, v) -> g.placeOf(v) < 16 && !(kind == Play.READY && to == 1));
        CHECK.due("node 0 ordered place 0", "0", Play.orderOf(g.x, 0));
        CHECK.due("balances of 0", "75 125 100 100", Play.balancesOf(g.x, 0));
        CHECK.due("node 1 ordered nothing", "", Play.orderOf(g.x, 1));
        CHECK.due("balances of 1", "100 100 100 100", Play.balancesOf(g.x, 1));
        CHECK.due("balances of 2", "75 125 100 100", Play.balancesOf(g.x, 2));
    }

    /** Place 3, the faulty node's, leads wave 1. */
    private static void forgedTransfersAreMadeToo() {
        WaveLedger x = new WaveLedger(6, 3, 3);
        Play.spread(x, 3, x.forge(1, 0, 0L, 99030));
        x.begin();
        Play.settle(x);
        CHECK.due("ordered first", 3, x.ordered(0, 0));
        CHECK.due("balances", "199 100 100 1", Play.balancesOf(x, 0));
        CHECK.due("balances of the faulty", "0 0 0 0", Play.balancesOf(x, 3));
    }
}
