/** Promise 5: the message at a place comes, and what that does at the node (BROADCASTS). */
public final class Promise05DeliverTest {
    private static final Check CHECK = new Check("Promise05Deliver");

    public static void main(String[] args) {
        noneAtSuchPlaces();
        theOthersMoveUp();
        sendOfTheSourceIsEchoedOnce();
        sendOfAnotherIsNothing();
        threeEchoesMakeReady();
        echoOfASecondVertexIsNothing();
        twoReadiesMakeReady();
        readyOnceForAPlace();
        threeReadiesAreAccepted();
        readyOfASecondVertexIsNothing();
        theFaultyNodeIsSentNothing();
        CHECK.end();
    }

    /** Two vertices, 1 and 2, for place 3 of the faulty node 3; nothing waits. */
    private static WaveLedger withTwoForged() {
        WaveLedger x = new WaveLedger(1, 0, 3);
        x.forge(1, 0, 0L, 0);
        x.forge(1, 0, 0L, 1001);
        return x;
    }

    private static void noneAtSuchPlaces() {
        WaveLedger x = new WaveLedger(1, 0, -1);
        CHECK.due("deliver(0) of none", false, x.deliver(0));
        x.begin();
        int[] wrong = {-1, 16, 17, 2240, 9999, Integer.MIN_VALUE, Integer.MAX_VALUE};
        for (int k : wrong) {
            CHECK.due("deliver(" + k + ")", false, x.deliver(k));
        }
        CHECK.due("nothing came", 16, x.run(0));
        CHECK.due("deliver(15)", true, x.deliver(15));
        CHECK.due("one came, four were sent", 19, x.run(0));
    }

    private static void theOthersMoveUp() {
        WaveLedger x = new WaveLedger(1, 0, 3);
        x.begin();
        CHECK.due("deliver(4)", true, x.deliver(4));
        CHECK.due("messages", "0.0.0.1 0.0.1.1 0.0.2.1 0.1.0.2 0.1.2.2 0.2.0.3 0.2.1.3 0.2.2.3"
                + " 1.1.0.2 1.1.1.2 1.1.2.2", Play.messagesFrom(x, 0));
        CHECK.due("deliver(0)", true, x.deliver(0));
        CHECK.due("messages", "0.0.1.1 0.0.2.1 0.1.0.2 0.1.2.2 0.2.0.3 0.2.1.3 0.2.2.3"
                + " 1.1.0.2 1.1.1.2 1.1.2.2 1.0.0.1 1.0.1.1 1.0.2.1", Play.messagesFrom(x, 0));
    }

    private static void sendOfTheSourceIsEchoedOnce() {
        WaveLedger x = withTwoForged();
        Play.whisperNow(x, Play.SEND, 0, 2);
        CHECK.due("the first SEND", "1.0.0.2 1.0.1.2 1.0.2.2", Play.messagesFrom(x, 0));
        Play.whisperNow(x, Play.SEND, 0, 1);
        Play.whisperNow(x, Play.SEND, 0, 2);
        CHECK.due("later SENDs", 3, x.run(0));
        int other = x.forge(2, 7, 0L, 0);
        Play.whisperNow(x, Play.SEND, 0, other);
        CHECK.due("SEND for another place", "1.0.0.3 1.0.1.3 1.0.2.3", Play.messagesFrom(x, 3));
    }

    private static void sendOfAnotherIsNothing() {
        WaveLedger x = new WaveLedger(1, 0, 3);
        x.begin();
        Play.whisperNow(x, Play.SEND, 1, 1);
        CHECK.due("SEND of node 0's vertex from node 3", 9, x.run(0));
        CHECK.due("the SEND from node 0 comes", true, Play.deliverSuch(x, Play.SEND, 0, 1, 1));
        CHECK.due("it is the first", "1.1.0.1 1.1.1.1 1.1.2.1", Play.messagesFrom(x, 8));
    }

    private static void threeEchoesMakeReady() {
        WaveLedger x = withTwoForged();
        Play.whisperNow(x, Play.SEND, 0, 1);
        Play.whisperNow(x, Play.SEND, 1, 1);
        Play.deliverSuch(x, Play.ECHO, 0, 0, 1);
        Play.deliverSuch(x, Play.ECHO, 1, 0, 1);
        CHECK.due("two ECHOs", 4, x.run(0));
        Play.whisperNow(x, Play.ECHO, 0, 1);
        CHECK.due("three ECHOs", "2.0.0.1 2.0.1.1 2.0.2.1", Play.messagesFrom(x, 4));
        Play.whisperNow(x, Play.SEND, 2, 1);
        Play.deliverSuch(x, Play.ECHO, 2, 0, 1);
        CHECK.due("the fourth ECHO", 9, x.run(0));
    }

    private static void echoOfASecondVertexIsNothing() {
        WaveLedger x = withTwoForged();
        Play.whisperNow(x, Play.SEND, 0, 1);
        Play.whisperNow(x, Play.SEND, 1, 1);
        Play.whisperNow(x, Play.SEND, 2, 1);
        Play.whisperNow(x, Play.ECHO, 0, 2);
        Play.whisperNow(x, Play.ECHO, 0, 1);
        Play.whisperNow(x, Play.ECHO, 0, 1);
        Play.deliverSuch(x, Play.ECHO, 0, 0, 1);
        Play.deliverSuch(x, Play.ECHO, 1, 0, 1);
        CHECK.due("node 3 was noted for vertex 2", 7, x.run(0));
        Play.deliverSuch(x, Play.ECHO, 2, 0, 1);
        CHECK.due("three others", "2.0.0.1 2.0.1.1 2.0.2.1", Play.messagesFrom(x, 6));
        WaveLedger again = withTwoForged();
        for (int i = 0; i < 4; i++) {
            Play.whisperNow(again, Play.ECHO, 0, 1);
        }
        CHECK.due("one sender is noted once", 0, again.run(0));
    }

    /** Vertex 1 is echoed by all, so that the nodes 1 and 2 may send READY to node 0. */
    private static WaveLedger withReadiesFor0() {
        WaveLedger x = withTwoForged();
        for (int node = 0; node < 3; node++) {
            Play.whisperNow(x, Play.SEND, node, 1);
        }
        for (int node = 1; node < 3; node++) {
            for (int from = 0; from < 3; from++) {
                Play.deliverSuch(x, Play.ECHO, from, node, 1);
            }
        }
        return x;
    }

    private static void twoReadiesMakeReady() {
        WaveLedger x = withReadiesFor0();
        CHECK.due("READYs of 1 and 2", 9, x.run(0));
        Play.deliverSuch(x, Play.READY, 1, 0, 1);
        CHECK.due("one READY", 8, x.run(0));
        Play.deliverSuch(x, Play.READY, 2, 0, 1);
        CHECK.due("two READYs", "2.0.0.1 2.0.1.1 2.0.2.1", Play.messagesFrom(x, 7));
        CHECK.due("two do not accept", 0, x.graph(0, 3));
    }

    private static void readyOnceForAPlace() {
        WaveLedger x = withReadiesFor0();
        Play.deliverSuch(x, Play.READY, 1, 0, 1);
        Play.deliverSuch(x, Play.READY, 2, 0, 1);
        int before = x.run(0);
        for (int from = 0; from < 3; from++) {
            Play.deliverSuch(x, Play.ECHO, from, 0, 1);
        }
        CHECK.due("no second READY by ECHOs", before - 3, x.run(0));
        Play.deliverSuch(x, Play.READY, 0, 0, 1);
        CHECK.due("nor by the third READY", before - 4, x.run(0));
        CHECK.due("accepted", 1, x.graph(0, 3));
    }

    private static void threeReadiesAreAccepted() {
        WaveLedger x = withReadiesFor0();
        Play.whisperNow(x, Play.READY, 0, 1);
        Play.whisperNow(x, Play.READY, 0, 1);
        CHECK.due("one sender is noted once", 9, x.run(0));
        Play.deliverSuch(x, Play.READY, 1, 0, 1);
        CHECK.due("two", 0, x.graph(0, 3));
        Play.deliverSuch(x, Play.READY, 2, 0, 1);
        CHECK.due("three", 1, x.graph(0, 3));
        CHECK.due("not at another node", 0, x.graph(1, 3));
        Play.deliverSuch(x, Play.READY, 0, 0, 1);
        CHECK.due("four", 1, x.graph(0, 3));
        CHECK.due("places in the graph", 1, x.node(0, 3));
    }

    private static void readyOfASecondVertexIsNothing() {
        WaveLedger x = withReadiesFor0();
        Play.whisperNow(x, Play.READY, 0, 2);
        Play.whisperNow(x, Play.READY, 0, 1);
        Play.deliverSuch(x, Play.READY, 1, 0, 1);
        CHECK.due("node 3 was noted for vertex 2", 8, x.run(0));
        Play.deliverSuch(x, Play.READY, 2, 0, 1);
        CHECK.due("two others accept nothing", 0, x.graph(0, 3));
        Play.deliverSuch(x, Play.READY, 0, 0, 1);
        CHECK.due("three others do", 1, x.graph(0, 3));
    }

    private static void theFaultyNodeIsSentNothing() {
        WaveLedger x = withReadiesFor0();
        for (int i = 0; i < 100 && x.run(0) > 0; i++) {
            CHECK.due("message(0, 2) is 3", false, x.message(0, 2) == 3);
            x.deliver(0);
        }
        for (int node = 0; node < 3; node++) {
            CHECK.due("accepted at " + node, 1, x.graph(node, 3));
        }
        CHECK.due("not at the faulty", 0, x.graph(3, 3));
    }
}
