/** Promise 2: transfers wait at a node, and are made in the common order. */
public final class Promise02TransferTest {
    private static final Check CHECK = new Check("Promise02Transfer");

    public static void main(String[] args) {
        waitBehindTheOthers();
        wrongArguments();
        twelveAtTheMost();
        takenOneAVertex();
        balancesFollowTheOrder();
        exactBalanceIsEnough();
        CHECK.end();
    }

    private static void waitBehindTheOthers() {
        WaveLedger x = new WaveLedger(1, 0, -1);
        CHECK.due("transfer(0, 0, 1, 30)", 1, x.transfer(0, 0, 1, 30));
        CHECK.due("transfer(0, 1, 2, 1)", 2, x.transfer(0, 1, 2, 1));
        CHECK.due("transfer(3, 3, 3, 99)", 1, x.transfer(3, 3, 3, 99));
        CHECK.due("transfer(0, 0, 0, 5)", 3, x.transfer(0, 0, 0, 5));
        CHECK.due("waits apart from messages", 0, x.run(0));
    }

    private static void wrongArguments() {
        WaveLedger x = new WaveLedger(1, 0, 2);
        int[][] wrong = {
            {-1, 0, 1, 5}, {4, 0, 1, 5}, {2, 0, 1, 5}, {Integer.MIN_VALUE, 0, 1, 5},
            {0, -1, 1, 5}, {0, 4, 1, 5}, {0, 0, -1, 5}, {0, 0, 4, 5},
            {0, 0, 1, 0}, {0, 0, 1, 100}, {0, 0, 1, -1}, {0, 0, 1, Integer.MAX_VALUE},
        };
        for (int[] w : wrong) {
            CHECK.refused("transfer(" + w[0] + ", " + w[1] + ", " + w[2] + ", " + w[3] + ")",
                    Check.ARGUMENT, () -> x.transfer(w[0], w[1], w[2], w[3]));
        }
        CHECK.due("what threw left nothing", 1, x.transfer(0, 3, 3, 1));
    }

    private static void twelveAtTheMost() {
        WaveLedger x = new WaveLedger(1, 0, 2);
        for (int i = 1; i <= 12; i++) {
            CHECK.due("transfer number " + i, i, x.transfer(1, 0, 1, i));
        }
        CHECK.refused("the thirteenth", Check.STATE, () -> x.transfer(1, 0, 1, 13));
        CHECK.refused("the thirteenth, amount 0", Check.ARGUMENT, () -> x.transfer(1, 0, 1, 0));
        CHECK.refused("the thirteenth, account 4", Check.ARGUMENT, () -> x.transfer(1, 0, 4, 1));
        CHECK.due("another node has room", 1, x.transfer(0, 0, 1, 1));
        x.begin();
        CHECK.due("one was taken", 12, x.transfer(1, 0, 1, 14));
        CHECK.refused("full again", Check.STATE, () -> x.transfer(1, 0, 1, 15));
        Play.settle(x);
        for (int round = 1; round <= 12; round++) {
            int v = x.graph(1, Play.place(round, 1));
            CHECK.due("transfer in round " + round, 1000 * round + 1, x.vertex(v, 2));
        }
        CHECK.due("the last one waits on", 2, x.transfer(1, 0, 1, 16));
    }

    private static void takenOneAVertex() {
        WaveLedger x = new WaveLedger(1, 0, 3);
        x.transfer(1, 2, 3, 45);
        x.transfer(1, 3, 2, 99);
        x.begin();
        CHECK.due("none waits at node 0", 0, x.vertex(1, 2));
        CHECK.due("the first of node 1", 45023, x.vertex(2, 2));
        CHECK.due("one waits on", 2, x.transfer(1, 0, 0, 1));
        Play.settle(x);
        CHECK.due("round 2", 99032, x.vertex(x.graph(1, Play.place(2, 1)), 2));
        CHECK.due("round 3", 1000, x.vertex(x.graph(1, Play.place(3, 1)), 2));
        CHECK.due("round 4", 0, x.vertex(x.graph(1, Play.place(4, 1)), 2));
    }

    /** Ordered are place 0, then 1, 2, 4, 5, .. : coins 0, three nodes. */
    private static void balancesFollowTheOrder() {
        WaveLedger x = new WaveLedger(6, 0, 3);
        x.transfer(0, 0, 1, 99);
        x.transfer(1, 0, 2, 50);
        x.transfer(2, 1, 3, 98);
        x.transfer(0, 1, 0, 60);
        x.transfer(1, 2, 2, 77);
        x.transfer(2, 3, 3, 99);
        x.begin();
        Play.settle(x);
        // 0 -> 1 of 99; then 50 from account 0 has not enough; 1 -> 3 of 98; 1 -> 0 of 60.
        for (int node = 0; node < 3; node++) {
            CHECK.due("balances of node " + node, "61 41 100 198", Play.balancesOf(x, node));
        }
        CHECK.due("balances of the faulty node", "0 0 0 0", Play.balancesOf(x, 3));
    }

    private static void exactBalanceIsEnough() {
        WaveLedger x = new WaveLedger(6, 0, 3);
        x.transfer(0, 0, 1, 99);
        x.transfer(1, 0, 1, 1);
        x.transfer(2, 0, 1, 1);
        x.transfer(0, 1, 1, 99);
        x.begin();
        Play.settle(x);
        CHECK.due("balances", "0 200 100 100", Play.balancesOf(x, 0));
    }
}
