/** Promise 12: the vertex that a node has at a place, and when it is added. */
public final class Promise12GraphTest {
    private static final Check CHECK = new Check("Promise12Graph");

    public static void main(String[] args) {
        wrongArguments();
        allOfAnEndedRun();
        waitsForStrong();
        waitsForWeak();
        oneLetsInOthers();
        firstAcceptedStays();
        CHECK.end();
    }

    private static void wrongArguments() {
        WaveLedger x = new WaveLedger(1, 0, -1);
        x.begin();
        Play.settle(x);
        int[] nodes = {-1, 4, Integer.MIN_VALUE, Integer.MAX_VALUE};
        for (int node : nodes) {
            CHECK.due("graph(" + node + ", 0)", 0, x.graph(node, 0));
        }
        int[] places = {-1, 48, 49, Integer.MIN_VALUE, Integer.MAX_VALUE};
        for (int place : places) {
            CHECK.due("graph(0, " + place + ")", 0, x.graph(0, place));
        }
    }

    private static void allOfAnEndedRun() {
        WaveLedger x = new WaveLedger(9, 0, -1);
        x.begin();
        Play.settle(x);
        for (int place = 0; place < 48; place++) {
            int v = x.graph(0, place);
            CHECK.due("place of graph(0, " + place + ")", place, x.vertex(v, 0));
            CHECK.due("graph(3, " + place + ")", v, x.graph(3, place));
        }
    }

    private static void waitsForStrong() {
        WaveLedger x = new WaveLedger(9, 0, 3);
        int v = x.forge(2, 7, 0L, 0);
        Play.spread(x, 3, v);
        CHECK.due("accepted, round 1 is missing", -v, x.graph(0, 7));
        CHECK.due("places in the graph", 0, x.node(0, 3));
        x.begin();
        int before = 0;
        for (int i = 0; i < 90 && before < 3; i++) {
            CHECK.due("accepted, " + before + " of round 1", -v, x.graph(0, 7));
            x.run(1);
            before = placesOfRound1(x);
        }
        CHECK.due("added with the third", v, x.graph(0, 7));
    }

    private static int placesOfRound1(WaveLedger x) {
        int count = 0;
        for (int place = 0; place < 3; place++) {
            if (x.graph(0, place) > 0) {
                count++;
            }
        }
        return count;
    }

    private static void waitsForWeak() {
        WaveLedger x = new WaveLedger(9, 0, 3);
        x.begin();
        Play.settle(x);
        int late = x.forge(3, 7, 1L << 3, 0);
        Play.spread(x, 3, late);
        CHECK.due("accepted, place 3 is missing", -late, x.graph(1, 11));
        CHECK.due("places in the graph", 36, x.node(1, 3));
        int first = x.forge(1, 0, 0L, 0);
        Play.spread(x, 3, first);
        CHECK.due("place 3", first, x.graph(1, 3));
        CHECK.due("added with place 3", late, x.graph(1, 11));
        CHECK.due("places in the graph then", 38, x.node(1, 3));
    }

    private static void oneLetsInOthers() {
        WaveLedger x = new WaveLedger(9, 0, 3);
        x.begin();
        Play.settle(x);
        int[] chain = new int[13];
        for (int round = 12; round >= 2; round--) {
            chain[round] = x.forge(round, round % 2 == 0 ? 15 : 11, 0L, 0);
            Play.spread(x, 3, chain[round]);
            CHECK.due("round " + round + " waits", -chain[round], x.graph(2, Play.place(round, 3)));
        }
        chain[1] = x.forge(1, 0, 0L, 0);
        Play.spread(x, 3, chain[1]);
        for (int round = 1; round <= 12; round++) {
            CHECK.due("round " + round + " is added", chain[round], x.graph(2, Play.place(round, 3)));
        }
        CHECK.due("places in the graph", 48, x.node(2, 3));
    }

    /** A vertex that isn't right takes its place for good. */
    private static void firstAcceptedStays() {
        WaveLedger x = new WaveLedger(9, 0, 3);
        int wrong = x.forge(1, 7, 0L, 0);
        int right = x.forge(1, 0, 0L, 0);
        Play.spread(x, 3, wrong);
        Play.spread(x, 3, right);
        x.whisper(Play.READY, 0, right);
        x.begin();
        Play.settle(x);
        for (int node = 0; node < 3; node++) {
            CHECK.due("graph(" + node + ", 3)", -wrong, x.graph(node, 3));
            CHECK.due("places in the graph", 36, x.node(node, 3));
        }
        CHECK.due("graph(3, 3) of the faulty", 0, x.graph(3, 3));
    }
}
