/** Promise 11: what a node answers of itself, and when a wave is committed. */
public final class Promise11NodeTest {
    private static final Check CHECK = new Check("Promise11Node");

    public static void main(String[] args) {
        wrongArguments();
        theFaultyNode();
        ownRoundFollowsTheThird();
        roundsEndAtTwelve();
        waveIsDoneAfterItsLastRound();
        lastWaveIsDoneAtRoundTwelve();
        lastWaveIsDoneOnce();
        wavesWithoutTheirLeader();
        threeMustSupportTheLeader();
        CHECK.end();
    }

    private static void wrongArguments() {
        WaveLedger x = new WaveLedger(1, 0, 3);
        int[] absent = {-1, 4, Integer.MIN_VALUE, Integer.MAX_VALUE};
        for (int node : absent) {
            CHECK.due("node(" + node + ", 0)", -1, x.node(node, 0));
            CHECK.due("node(" + node + ", 4)", -1, x.node(node, 4));
        }
        int[] wrong = {-1, 8, 9, Integer.MIN_VALUE, Integer.MAX_VALUE};
        for (int what : wrong) {
            CHECK.due("node(0, " + what + ")", -1, x.node(0, what));
            CHECK.due("node(3, " + what + ") of the faulty", -1, x.node(3, what));
        }
    }

    private static void theFaultyNode() {
        WaveLedger x = new WaveLedger(1, 0, 3);
        Play.spread(x, 3, x.forge(1, 0, 0L, 0));
        x.begin();
        Play.settle(x);
        for (int what = 0; what < 8; what++) {
            CHECK.due("node(3, " + what + ")", 0, x.node(3, what));
        }
    }

    private static void ownRoundFollowsTheThird() {
        WaveLedger x = new WaveLedger(1, 0, 3);
        x.begin();
        for (int i = 0; i < 160; i++) {
            x.run(1);
            int inGraph = x.node(1, 3);
            CHECK.due("own round with " + inGraph + " places", 1 + inGraph / 3, x.node(1, 0));
        }
    }

    private static void roundsEndAtTwelve() {
        WaveLedger x = new WaveLedger(1, 0, -1);
        x.begin();
        Play.settle(x);
        for (int node = 0; node < 4; node++) {
            CHECK.due("own round of " + node, 12, x.node(node, 0));
            CHECK.due("places of " + node, 48, x.node(node, 3));
        }
        CHECK.due("no 49th vertex", -1, x.vertex(49, 0));
    }

    /** With three nodes the graph tells how far the round is. */
    private static void waveIsDoneAfterItsLastRound() {
        WaveLedger x = new WaveLedger(2, 0, 3);
        x.begin();
        x.run(100);
        x.run(80);
        runUntilPlaces(x, 11);
        CHECK.due("round 4 has two: wave", 0, x.node(2, 1));
        CHECK.due("round 4 has two: ordered", 0, x.node(2, 2));
        runUntilPlaces(x, 12);
        CHECK.due("round 4 has three: wave", 1, x.node(2, 1));
        CHECK.due("round 4 has three: ordered", 1, x.node(2, 2));
        CHECK.due("round 4 has three: own round", 5, x.node(2, 0));
    }

    private static void runUntilPlaces(WaveLedger x, int places) {
        for (int i = 0; i < 200 && x.node(2, 3) < places; i++) {
            x.run(1);
        }
    }

    private static void lastWaveIsDoneAtRoundTwelve() {
        WaveLedger x = new WaveLedger(2, 0, 3);
        x.begin();
        for (int i = 0; i < 6; i++) {
            x.run(100);
        }
        runUntilPlaces(x, 35);
        CHECK.due("round 12 has two: wave", 2, x.node(2, 1));
        CHECK.due("round 12 has two: ordered", 13, x.node(2, 2));
        runUntilPlaces(x, 36);
        CHECK.due("round 12 has three: wave", 3, x.node(2, 1));
        CHECK.due("round 12 has three: ordered", 25, x.node(2, 2));
        Play.settle(x);
        CHECK.due("once: ordered", 25, x.node(2, 2));
    }

    /** Here the fourth place of round 12 is the third to support the leader: too late. */
    private static void lastWaveIsDoneOnce() {
        WaveLedger x = new WaveLedger(50005, 0, -1);
        x.begin();
        Play.settle(x);
        for (int node = 0; node < 4; node++) {
            CHECK.due("all is in the graph of " + node, 48, x.node(node, 3));
            CHECK.due("latest wave of " + node, 2, x.node(node, 1));
            CHECK.due("ordered by " + node, 16, x.node(node, 2));
        }
    }

    private static void wavesWithoutTheirLeader() {
        committedWith(0b00_00_00, 3, 25);
        committedWith(0b11_00_00, 2, 13);
        committedWith(0b11_11_00, 1, 1);
        committedWith(0b11_11_11, 0, 0);
        committedWith(0b10_11_01, 3, 25);
        committedWith(0b11_10_11, 2, 13);
    }

    /** Node 3 is silent, so a wave whose coins say 3 has no leader in any graph. */
    private static void committedWith(int coins, int wave, int ordered) {
        WaveLedger x = new WaveLedger(31, coins, 3);
        x.begin();
        Play.settle(x);
        for (int node = 0; node < 3; node++) {
            CHECK.due("coins " + coins + ": node(" + node + ", 1)", wave, x.node(node, 1));
            CHECK.due("coins " + coins + ": node(" + node + ", 2)", ordered, x.node(node, 2));
        }
    }

    /** Place 3 comes after all have left round 1: no strong path, so the wave isn't committed. */
    private static void threeMustSupportTheLeader() {
        WaveLedger x = new WaveLedger(31, 0b11_11_11, 3);
        int late = x.forge(1, 0, 0L, 0);
        x.begin();
        x.run(80);
        CHECK.due("round 1 is left by all", true, x.node(0, 0) > 1 && x.node(1, 0) > 1 && x.node(2, 0) > 1);
        for (int node = 0; node < 3; node++) {
            x.whisper(Play.SEND, node, late);
        }
        Play.settle(x);
        for (int node = 0; node < 3; node++) {
            CHECK.due("the leader is in the graph of " + node, late, x.graph(node, 3));
            CHECK.due("wave of " + node, 0, x.node(node, 1));
        }
    }
}
