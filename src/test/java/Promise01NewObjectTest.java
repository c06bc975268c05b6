/** Promise 1: seed, coins and the faulty node of a new object. */
public final class Promise01NewObjectTest {
    private static final Check CHECK = new Check("Promise01NewObject");

    public static void main(String[] args) {
        nothingHasHappened();
        faultyIsNoneOutsideTheNodes();
        eachNodeMayBeFaulty();
        coinsAreTwoBitsAWave();
        coinsAboveTheThirdWaveSayNothing();
        seedIsWhereDrawingStarts();
        CHECK.end();
    }

    private static void nothingHasHappened() {
        WaveLedger x = new WaveLedger(3, 27, 2);
        for (int node = 0; node < 4; node++) {
            for (int what = 0; what < 4; what++) {
                CHECK.due("new: node(" + node + ", " + what + ")", 0, x.node(node, what));
            }
            CHECK.due("new: balances of " + node, node == 2 ? "0 0 0 0" : "100 100 100 100",
                    Play.balancesOf(x, node));
            for (int place = 0; place < 48; place++) {
                CHECK.due("new: graph(" + node + ", " + place + ")", 0, x.graph(node, place));
            }
            CHECK.due("new: ordered(" + node + ", 0)", -1, x.ordered(node, 0));
        }
        CHECK.due("new: message(0, 0)", -1, x.message(0, 0));
        CHECK.due("new: vertex(1, 0)", -1, x.vertex(1, 0));
        CHECK.due("new: run(0)", 0, x.run(0));
        CHECK.due("new: deliver(0)", false, x.deliver(0));
        CHECK.due("new: begin()", true, x.begin());
    }

    private static void faultyIsNoneOutsideTheNodes() {
        int[] none = {-1, 4, 5, 100, Integer.MIN_VALUE, Integer.MAX_VALUE};
        for (int faulty : none) {
            WaveLedger x = new WaveLedger(3, 27, faulty);
            CHECK.refused("faulty " + faulty + ": forge", Check.STATE, () -> x.forge(1, 0, 0L, 0));
            for (int node = 0; node < 4; node++) {
                CHECK.due("faulty " + faulty + ": balance of node " + node, 100, x.node(node, 4));
                CHECK.due("faulty " + faulty + ": transfer at " + node, 1, x.transfer(node, 0, 1, 1));
            }
            x.begin();
            CHECK.due("faulty " + faulty + ": run(0)", 16, x.run(0));
        }
    }

    private static void eachNodeMayBeFaulty() {
        for (int faulty = 0; faulty < 4; faulty++) {
            WaveLedger x = new WaveLedger(3, 27, faulty);
            x.begin();
            CHECK.due("faulty " + faulty + ": run(0)", 9, x.run(0));
            for (int k = 0; k < 9; k++) {
                CHECK.due("message(" + k + ", 1) is of the faulty", false, x.message(k, 1) == faulty);
                CHECK.due("message(" + k + ", 2) is for the faulty", false, x.message(k, 2) == faulty);
            }
            Play.settle(x);
            for (int node = 0; node < 4; node++) {
                CHECK.due("faulty " + faulty + ": node(" + node + ", 0)",
                        node == faulty ? 0 : 12, x.node(node, 0));
            }
        }
    }

    /** Three nodes need all three of a round, so the order in which messages come does not matter. */
    private static void coinsAreTwoBitsAWave() {
        WaveLedger x = new WaveLedger(8, 0b00_01_10, 3);
        x.begin();
        Play.settle(x);
        CHECK.due("coins 2, 1, 0: first leader", 2, x.ordered(0, 0));
        CHECK.due("coins 2, 1, 0: second leader", 17, x.ordered(0, 12));
        CHECK.due("coins 2, 1, 0: third leader", 32, x.ordered(0, 24));
        CHECK.due("coins 2, 1, 0: ordered", 25, x.node(0, 2));
    }

    private static void coinsAboveTheThirdWaveSayNothing() {
        WaveLedger plain = new WaveLedger(8, 0b10_01_10, 3);
        WaveLedger more = new WaveLedger(8, 0b10_01_10 | ~63, 3);
        plain.begin();
        more.begin();
        Play.settle(plain);
        Play.settle(more);
        CHECK.due("higher bits of coins", Play.orderOf(plain, 1), Play.orderOf(more, 1));
        CHECK.due("coins 2, 1, 2: third leader", 34, plain.ordered(1, 24));
    }

    private static void seedIsWhereDrawingStarts() {
        // 1 * 1103515245 + 12345 = 1103527590; >>> 16 is 16838; of 16 it is 6.
        WaveLedger one = new WaveLedger(1, 0, -1);
        one.begin();
        one.run(1);
        CHECK.due("seed 1: the message at 6 came", "1.2.0.2 1.2.1.2 1.2.2.2 1.2.3.2",
                Play.messagesFrom(one, 15));
        // 0 * 1103515245 + 12345 = 12345; >>> 16 is 0.
        WaveLedger zero = new WaveLedger(0, 0, -1);
        zero.begin();
        zero.run(1);
        CHECK.due("seed 0: the message at 0 came", "1.0.0.1 1.0.1.1 1.0.2.1 1.0.3.1",
                Play.messagesFrom(zero, 15));
    }
}
