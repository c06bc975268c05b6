/** Promise 6: the faulty node's vertices, right or not. */
public final class Promise06ForgeTest {
    private static final Check CHECK = new Check("Promise06Forge");
    private static final long ALL_PLACES = (1L << 48) - 1L;

    public static void main(String[] args) {
        numberedWithTheOthers();
        widestArguments();
        wrongArguments();
        wrongTransfers();
        twentyFourAtTheMost();
        noneWithoutAFaultyNode();
        rightOnesAreAddedAlone();
        CHECK.end();
    }

    private static void numberedWithTheOthers() {
        WaveLedger x = new WaveLedger(1, 0, 2);
        CHECK.due("before begin()", 1, x.forge(1, 0, 0L, 0));
        CHECK.due("another for the same place", 2, x.forge(1, 0, 0L, 0));
        x.begin();
        CHECK.due("after begin()", 6, x.forge(12, 7, 5L, 7013));
        CHECK.due("vertex(6, 0)", 46, x.vertex(6, 0));
        CHECK.due("vertex(6, 1)", 7, x.vertex(6, 1));
        CHECK.due("vertex(6, 2)", 7013, x.vertex(6, 2));
        CHECK.due("weak(6)", 5, x.weak(6));
        CHECK.due("nothing was sent", 9, x.run(0));
    }

    private static void widestArguments() {
        WaveLedger x = new WaveLedger(1, 0, 0);
        CHECK.due("all bits", 1, x.forge(1, 15, ALL_PLACES, 99033));
        CHECK.due("vertex(1, 0)", 0, x.vertex(1, 0));
        CHECK.due("vertex(1, 1)", 15, x.vertex(1, 1));
        CHECK.due("vertex(1, 2)", 99033, x.vertex(1, 2));
        CHECK.due("weak(1)", ALL_PLACES, x.weak(1));
        CHECK.due("least transfer", 2, x.forge(12, 0, 1L << 47, 1000));
        CHECK.due("vertex(2, 0)", 44, x.vertex(2, 0));
    }

    private static void wrongArguments() {
        WaveLedger x = new WaveLedger(1, 0, 3);
        int[] rounds = {0, 13, -1, Integer.MIN_VALUE, Integer.MAX_VALUE};
        for (int round : rounds) {
            CHECK.refused("round " + round, Check.ARGUMENT, () -> x.forge(round, 0, 0L, 0));
        }
        int[] strongs = {-1, 16, Integer.MIN_VALUE, Integer.MAX_VALUE};
        for (int strong : strongs) {
            CHECK.refused("strong " + strong, Check.ARGUMENT, () -> x.forge(2, strong, 0L, 0));
        }
        long[] weaks = {-1L, 1L << 48, 1L << 62, Long.MIN_VALUE, Long.MAX_VALUE};
        for (long weak : weaks) {
            CHECK.refused("weak " + weak, Check.ARGUMENT, () -> x.forge(2, 7, weak, 0));
        }
        CHECK.due("what threw made nothing", 1, x.forge(2, 7, 0L, 0));
    }

    private static void wrongTransfers() {
        WaveLedger x = new WaveLedger(1, 0, 3);
        int[] wrong = {-1, 1, 11, 999, 1004, 1009, 1040, 1043, 1034, 1100, 1990, 100000, 100011, 99034,
            -1000, -1011, -99033, Integer.MIN_VALUE, Integer.MAX_VALUE};
        for (int transfer : wrong) {
            CHECK.refused("transfer " + transfer, Check.ARGUMENT, () -> x.forge(1, 0, 0L, transfer));
        }
        int made = 0;
        int[] right = {0, 1000, 1003, 1030, 1033, 50012, 99000, 99033};
        for (int transfer : right) {
            made++;
            CHECK.due("transfer " + transfer, made, x.forge(1, 0, 0L, transfer));
        }
    }

    private static void twentyFourAtTheMost() {
        WaveLedger x = new WaveLedger(1, 0, 3);
        for (int i = 1; i <= 24; i++) {
            CHECK.due("forge number " + i, i, x.forge(1 + i % 12, 0, 0L, 0));
        }
        CHECK.refused("the 25th", Check.STATE, () -> x.forge(1, 0, 0L, 0));
        CHECK.refused("the 25th, round 13", Check.ARGUMENT, () -> x.forge(13, 0, 0L, 0));
        CHECK.due("there is no 25th", -1, x.vertex(25, 0));
        x.begin();
        Play.settle(x);
        CHECK.due("vertices of the others", 47, x.vertex(60, 0) | x.vertex(59, 0) | x.vertex(58, 0));
        CHECK.due("no 61st", -1, x.vertex(61, 0));
    }

    private static void noneWithoutAFaultyNode() {
        WaveLedger x = new WaveLedger(1, 0, -1);
        CHECK.refused("forge", Check.STATE, () -> x.forge(1, 0, 0L, 0));
        CHECK.refused("forge, strong 16", Check.ARGUMENT, () -> x.forge(1, 16, 0L, 0));
        CHECK.due("nothing was made", -1, x.vertex(1, 0));
    }

    /** All of rounds 1 to 3 but the faulty node's own are there, so that only being right decides. */
    private static void rightOnesAreAddedAlone() {
        rightIs("round 1, empty", true, 1, 0, 0L);
        rightIs("round 1, STRONG", false, 1, 1, 0L);
        rightIs("round 1, STRONG of three", false, 1, 7, 0L);
        rightIs("round 1, WEAK", false, 1, 0, 1L);
        rightIs("round 2, three", true, 2, 7, 0L);
        rightIs("round 2, two", false, 2, 3, 0L);
        rightIs("round 2, none", false, 2, 0, 0L);
        rightIs("round 2, WEAK of round 1", false, 2, 7, 1L);
        rightIs("round 3, WEAK of round 1", true, 3, 7, 7L);
        rightIs("round 3, WEAK of round 2", false, 3, 7, 1L << 4);
        rightIs("round 3, WEAK of round 1 and 2", false, 3, 7, 1L | 1L << 6);
        rightIs("round 3, WEAK of round 3", false, 3, 7, 1L << 8);
        rightIs("round 3, WEAK of round 4", false, 3, 7, 1L << 12);
        rightIs("round 3, two and WEAK", false, 3, 5, 7L);
        rightIs("round 12, WEAK of round 10", true, 12, 7, 1L << 36);
        rightIs("round 12, WEAK of round 11", false, 12, 7, 1L << 40);
        rightIs("round 12, two", false, 12, 6, 0L);
    }

    private static void rightIs(String what, boolean right, int round, int strong, long weak) {
        WaveLedger x = new WaveLedger(4, 0, 3);
        x.begin();
        Play.settle(x);
        int v = x.forge(round, strong, weak, 0);
        Play.spread(x, 3, v);
        for (int node = 0; node < 3; node++) {
            CHECK.due(what + ": graph(" + node + ", ..)", right ? v : -v,
                    x.graph(node, Play.place(round, 3)));
            CHECK.due(what + ": node(" + node + ", 3)", right ? 37 : 36, x.node(node, 3));
        }
    }
}
