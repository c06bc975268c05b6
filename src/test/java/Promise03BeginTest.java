/** Promise 3: all nodes that are not faulty begin, ascending, once. */
public final class Promise03BeginTest {
    private static final Check CHECK = new Check("Promise03Begin");

    public static void main(String[] args) {
        fourBegin();
        theFaultyDoesNot();
        onceAlone();
        nothingGoesOnBefore();
        CHECK.end();
    }

    private static void fourBegin() {
        WaveLedger x = new WaveLedger(1, 0, -1);
        CHECK.due("begin()", true, x.begin());
        CHECK.due("messages", "0.0.0.1 0.0.1.1 0.0.2.1 0.0.3.1 0.1.0.2 0.1.1.2 0.1.2.2 0.1.3.2"
                + " 0.2.0.3 0.2.1.3 0.2.2.3 0.2.3.3 0.3.0.4 0.3.1.4 0.3.2.4 0.3.3.4",
                Play.messagesFrom(x, 0));
        for (int node = 0; node < 4; node++) {
            CHECK.due("own round of " + node, 1, x.node(node, 0));
            CHECK.due("place of vertex " + (node + 1), node, x.vertex(node + 1, 0));
            CHECK.due("STRONG of vertex " + (node + 1), 0, x.vertex(node + 1, 1));
            CHECK.due("WEAK of vertex " + (node + 1), 0, x.weak(node + 1));
        }
        CHECK.due("no fifth vertex", -1, x.vertex(5, 0));
    }

    private static void theFaultyDoesNot() {
        WaveLedger x = new WaveLedger(1, 0, 1);
        CHECK.due("begin()", true, x.begin());
        CHECK.due("messages", "0.0.0.1 0.0.2.1 0.0.3.1 0.2.0.2 0.2.2.2 0.2.3.2 0.3.0.3 0.3.2.3 0.3.3.3",
                Play.messagesFrom(x, 0));
        CHECK.due("own round of the faulty", 0, x.node(1, 0));
    }

    private static void onceAlone() {
        WaveLedger x = new WaveLedger(1, 0, -1);
        x.begin();
        CHECK.due("the second begin()", false, x.begin());
        CHECK.due("it sent nothing", 16, x.run(0));
        Play.settle(x);
        CHECK.due("begin() at the end", false, x.begin());
        CHECK.due("it sent nothing at the end", 0, x.run(0));
    }

    /** Messages come to nodes that have not begun, too, but their own round stays 0. */
    private static void nothingGoesOnBefore() {
        WaveLedger x = new WaveLedger(1, 0, 3);
        int v = x.forge(1, 0, 0L, 0);
        Play.spread(x, 3, v);
        CHECK.due("all came", 0, x.run(0));
        for (int node = 0; node < 3; node++) {
            CHECK.due("it is in the graph of " + node, v, x.graph(node, 3));
            CHECK.due("own round of " + node, 0, x.node(node, 0));
        }
        CHECK.due("begin()", true, x.begin());
        CHECK.due("own round then", 1, x.node(0, 0));
        CHECK.due("number of node 0's vertex", 0, x.vertex(v + 1, 0));
    }
}
