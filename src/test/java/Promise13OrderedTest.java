/** Promise 13: the places that a node ordered. */
public final class Promise13OrderedTest {
    private static final Check CHECK = new Check("Promise13Ordered");

    public static void main(String[] args) {
        wrongArguments();
        threeWavesOfThreeNodes();
        aWaveWithoutItsLeader();
        placeReachedByWeakIsOrdered();
        leadersOfEarlierWavesComeFirst();
        leaderWithoutAStrongPathIsLeftOut();
        strongPathCountsFromTheLastOfTheList();
        listsOfAllLengthsOrderAlike();
        allOrderAlike();
        CHECK.end();
    }

    private static void wrongArguments() {
        WaveLedger x = new WaveLedger(1, 0, 3);
        CHECK.due("ordered(0, 0) before begin()", -1, x.ordered(0, 0));
        x.begin();
        Play.settle(x);
        int[] absent = {-1, 25, 26, 47, 48, Integer.MIN_VALUE, Integer.MAX_VALUE};
        for (int k : absent) {
            CHECK.due("ordered(0, " + k + ")", -1, x.ordered(0, k));
        }
        int[] nodes = {-1, 3, 4, Integer.MIN_VALUE, Integer.MAX_VALUE};
        for (int node : nodes) {
            CHECK.due("ordered(" + node + ", 0)", -1, x.ordered(node, 0));
        }
        CHECK.due("ordered(0, 24)", 32, x.ordered(0, 24));
    }

    private static void threeWavesOfThreeNodes() {
        WaveLedger x = new WaveLedger(12, 0b00_01_10, 3);
        x.begin();
        Play.settle(x);
        for (int node = 0; node < 3; node++) {
            CHECK.due("order of " + node, "2 0 1 4 5 6 8 9 10 12 13 14 17"
                    + " 16 18 20 21 22 24 25 26 28 29 30 32", Play.orderOf(x, node));
        }
    }

    private static void aWaveWithoutItsLeader() {
        WaveLedger x = new WaveLedger(12, 0b10_11_01, 3);
        x.begin();
        Play.settle(x);
        CHECK.due("order", "1 0 2 4 5 6 8 9 10 12 13 14"
                + " 16 17 18 20 21 22 24 25 26 28 29 30 34", Play.orderOf(x, 0));
    }

    /** Place 3 is in WEAK alone, so it never leads a wave, and comes with wave 2. */
    private static void placeReachedByWeakIsOrdered() {
        WaveLedger x = new WaveLedger(31, 0b00_00_11, 3);
        int late = x.forge(1, 0, 0L, 70001);
        x.begin();
        x.run(80);
        for (int node = 0; node < 3; node++) {
            x.whisper(Play.SEND, node, late);
        }
        Play.settle(x);
        for (int node = 0; node < 3; node++) {
            CHECK.due("order of " + node, "0 1 2 3 4 5 6 8 9 10 12 13 14 16"
                    + " 17 18 20 21 22 24 25 26 28 29 30 32", Play.orderOf(x, node));
            CHECK.due("balances of " + node, "30 170 100 100", Play.balancesOf(x, node));
        }
    }

    private static WaveLedger ended(int seed, int coins) {
        WaveLedger x = new WaveLedger(seed, coins, -1);
        x.begin();
        Play.settle(x);
        return x;
    }

    /** Here the leaders 2 and 18 are not supported by three in time, but lie on strong paths from 34. */
    private static void leadersOfEarlierWavesComeFirst() {
        WaveLedger x = new WaveLedger(7481, 0b10_10_10, -1);
        x.begin();
        for (int i = 0; i < 16; i++) {
            x.run(100);
        }
        CHECK.due("own round before the end", 12, x.node(2, 0));
        CHECK.due("nothing is committed before the end", 0, x.node(2, 1));
        Play.settle(x);
        CHECK.due("order of 2", "2 0 1 3 4 5 6 7 8 9 10 11 12 13 14 18"
                + " 15 16 17 19 20 21 22 23 24 25 26 27 29 30 31 34", Play.orderOf(x, 2));
        CHECK.due("latest wave of 2", 3, x.node(2, 1));
    }

    /** Here 17 is in WEAK alone, so 35 is followed by 1 on the list. */
    private static void leaderWithoutAStrongPathIsLeftOut() {
        WaveLedger x = ended(81, 0b11_01_01);
        CHECK.due("order of 3", "1 0 2 3 4 5 6 7 8 9 10 11 12 13 14 15"
                + " 16 17 18 19 20 21 22 23 24 25 26 27 28 29 30 35", Play.orderOf(x, 3));
    }

    /** Here a strong path leads from 32 to 18 and to 1, but none from 18 to 1: 1 is not on the list. */
    private static void strongPathCountsFromTheLastOfTheList() {
        WaveLedger x = ended(25940, 0b00_10_01);
        for (int node = 0; node < 4; node++) {
            CHECK.due("order of " + node, "0 1 2 3 4 5 6 7 8 9 10 11 12 13 15 18"
                    + " 14 16 17 19 20 21 22 23 24 25 26 27 28 29 31 32", Play.orderOf(x, node));
        }
    }

    /** Here node 0 commits three waves, node 2 two, nodes 1 and 3 all in the last. */
    private static void listsOfAllLengthsOrderAlike() {
        WaveLedger x = new WaveLedger(1525, 0b00_01_00, -1);
        x.begin();
        for (int i = 0; i < 12; i++) {
            x.run(100);
        }
        CHECK.due("waves after 1200 messages", 1020, 1000 * x.node(0, 1) + 100 * x.node(1, 1)
                + 10 * x.node(2, 1) + x.node(3, 1));
        Play.settle(x);
        for (int node = 0; node < 4; node++) {
            CHECK.due("order of " + node, "0 1 2 3 4 5 6 7 8 9 10 11 12 13 15 17"
                    + " 14 16 18 19 20 21 22 23 24 25 26 27 28 29 30 32", Play.orderOf(x, node));
        }
    }

    private static void allOrderAlike() {
        for (int seed = 0; seed < 40; seed++) {
            WaveLedger x = new WaveLedger(seed, 11 * seed, -1);
            x.begin();
            for (int i = 0; i < 7 + seed % 12; i++) {
                x.run(100);
            }
            for (int node = 1; node < 4; node++) {
                int both = Math.min(x.node(0, 2), x.node(node, 2));
                for (int k = 0; k < both; k++) {
                    CHECK.due("seed " + seed + ": ordered(" + node + ", " + k + ")",
                            x.ordered(0, k), x.ordered(node, k));
                }
            }
        }
    }
}
