/** Terms, BROADCASTS: what is counted, what is counted once, and what is nothing. */
public final class TermBroadcastsTest {
    private static final Check CHECK = new Check("TermBroadcasts");

    public static void main(String[] args) {
        toOneselfTooAndInThisOrder();
        lateSendIsEchoedStill();
        sendOfTheFaultyAboutAnothersVertexIsNothing();
        sendIsSeenAtEachNodeForItself();
        echoesAndReadiesAreNotedApart();
        echoesAcceptNothing();
        echoAndReadyDoNotAddUp();
        echoesOfTwoVerticesDoNotAddUp();
        readiesOfTwoVerticesDoNotAddUp();
        notedForEachPlace();
        notedAtEachNode();
        readyIsBroadcastWithoutASend();
        anotherVertexAfterTheAcceptedOneIsNothing();
        CHECK.end();
    }

    /** Vertices 1 and 2 for place 3, vertex 3 for place 7, all of the faulty node 3; nothing waits. */
    private static WaveLedger withForged() {
        WaveLedger x = new WaveLedger(1, 0, 3);
        x.forge(1, 0, 0L, 0);
        x.forge(1, 0, 0L, 1001);
        x.forge(2, 7, 0L, 0);
        return x;
    }

    private static void toOneselfTooAndInThisOrder() {
        WaveLedger x = new WaveLedger(1, 0, 4);
        x.begin();
        x.deliver(7);
        CHECK.due("none is faulty: four ECHOs", "1.3.0.2 1.3.1.2 1.3.2.2 1.3.3.2", Play.messagesFrom(x, 15));
        WaveLedger without0 = new WaveLedger(1, 0, 0);
        without0.begin();
        without0.deliver(0);
        CHECK.due("node 0 is faulty: three ECHOs", "1.1.1.1 1.1.2.1 1.1.3.1", Play.messagesFrom(without0, 8));
    }

    /** Node 0 has broadcast READY of vertex 1 and accepted it before the SEND comes. */
    private static void lateSendIsEchoedStill() {
        WaveLedger x = withForged();
        Play.whisperNow(x, Play.SEND, 1, 1);
        Play.whisperNow(x, Play.SEND, 2, 1);
        x.whisper(Play.ECHO, 0, 1);
        x.whisper(Play.ECHO, 1, 1);
        x.whisper(Play.ECHO, 2, 1);
        x.run(100);
        CHECK.due("accepted without a SEND", 1, x.graph(0, 3));
        CHECK.due("nothing waits", 0, x.run(0));
        Play.whisperNow(x, Play.SEND, 0, 2);
        CHECK.due("the first SEND that comes", "1.0.0.2 1.0.1.2 1.0.2.2", Play.messagesFrom(x, 0));
    }

    private static void sendOfTheFaultyAboutAnothersVertexIsNothing() {
        for (int v = 1; v <= 3; v++) {
            WaveLedger x = new WaveLedger(1, 0, 3);
            x.begin();
            for (int node = 0; node < 3; node++) {
                Play.whisperNow(x, Play.SEND, node, v);
            }
            CHECK.due("SENDs of vertex " + v + " from node 3", 9, x.run(0));
        }
    }

    private static void sendIsSeenAtEachNodeForItself() {
        WaveLedger x = withForged();
        Play.whisperNow(x, Play.SEND, 0, 1);
        Play.whisperNow(x, Play.SEND, 1, 2);
        Play.whisperNow(x, Play.SEND, 2, 1);
        CHECK.due("each echoes its first", "1.0.0.1 1.0.1.1 1.0.2.1 1.1.0.2 1.1.1.2 1.1.2.2"
                + " 1.2.0.1 1.2.1.1 1.2.2.1", Play.messagesFrom(x, 0));
    }

    /** Node 3 is noted for an ECHO of vertex 2, and for a READY of vertex 1 all the same. */
    private static void echoesAndReadiesAreNotedApart() {
        WaveLedger x = withForged();
        for (int node = 0; node < 3; node++) {
            Play.whisperNow(x, Play.SEND, node, 1);
        }
        Play.whisperNow(x, Play.ECHO, 0, 2);
        for (int from = 0; from < 3; from++) {
            Play.deliverSuch(x, Play.ECHO, from, 1, 1);
        }
        CHECK.due("READY of node 1 comes", true, Play.deliverSuch(x, Play.READY, 1, 0, 1));
        int before = x.run(0);
        Play.whisperNow(x, Play.READY, 0, 1);
        CHECK.due("the second READY", "2.0.0.1 2.0.1.1 2.0.2.1", Play.messagesFrom(x, before));
    }

    private static void echoesAcceptNothing() {
        WaveLedger x = withForged();
        for (int node = 0; node < 3; node++) {
            Play.whisperNow(x, Play.SEND, node, 1);
        }
        for (int from = 0; from < 3; from++) {
            Play.deliverSuch(x, Play.ECHO, from, 0, 1);
        }
        Play.whisperNow(x, Play.ECHO, 0, 1);
        CHECK.due("four ECHOs", 0, x.graph(0, 3));
    }

    /** Two ECHOs and one READY are three senders' words, but neither three ECHOs nor two READYs. */
    private static void echoAndReadyDoNotAddUp() {
        WaveLedger x = withForged();
        Play.whisperNow(x, Play.SEND, 0, 1);
        Play.whisperNow(x, Play.SEND, 1, 1);
        Play.deliverSuch(x, Play.ECHO, 0, 2, 1);
        Play.deliverSuch(x, Play.ECHO, 1, 2, 1);
        Play.whisperNow(x, Play.READY, 2, 1);
        CHECK.due("no READY", 4, x.run(0));
    }

    private static void echoesOfTwoVerticesDoNotAddUp() {
        WaveLedger x = withForged();
        Play.whisperNow(x, Play.SEND, 0, 1);
        Play.whisperNow(x, Play.SEND, 1, 2);
        Play.whisperNow(x, Play.SEND, 2, 1);
        for (int node = 0; node < 3; node++) {
            Play.deliverSuch(x, Play.ECHO, 0, node, 1);
            Play.deliverSuch(x, Play.ECHO, 1, node, 2);
            Play.deliverSuch(x, Play.ECHO, 2, node, 1);
        }
        CHECK.due("two of one and one of the other", 0, x.run(0));
        Play.whisperNow(x, Play.ECHO, 1, 1);
        CHECK.due("three of one", "2.1.0.1 2.1.1.1 2.1.2.1", Play.messagesFrom(x, 0));
    }

    /** Node 1 sends READY of vertex 1; the faulty node's READY of vertex 2 is not the second of it. */
    private static void readiesOfTwoVerticesDoNotAddUp() {
        WaveLedger x = withForged();
        for (int node = 0; node < 3; node++) {
            Play.whisperNow(x, Play.SEND, node, 1);
        }
        for (int from = 0; from < 3; from++) {
            Play.deliverSuch(x, Play.ECHO, from, 1, 1);
        }
        int before = x.run(0);
        Play.deliverSuch(x, Play.READY, 1, 0, 1);
        Play.whisperNow(x, Play.READY, 0, 2);
        CHECK.due("one of each", before - 1, x.run(0));
    }

    /** The same three senders stand for vertex 1 at place 3 and for vertex 3 at place 7. */
    private static void notedForEachPlace() {
        WaveLedger x = withForged();
        for (int v = 1; v <= 3; v += 2) {
            Play.whisperNow(x, Play.SEND, 0, v);
            Play.whisperNow(x, Play.SEND, 1, v);
            Play.deliverSuch(x, Play.ECHO, 0, 0, v);
            Play.deliverSuch(x, Play.ECHO, 1, 0, v);
            int before = x.run(0);
            Play.whisperNow(x, Play.ECHO, 0, v);
            CHECK.due("READY of vertex " + v, "2.0.0." + v + " 2.0.1." + v + " 2.0.2." + v,
                    Play.messagesFrom(x, before));
        }
        WaveLedger y = withForged();
        for (int v = 1; v <= 3; v += 2) {
            Play.spread(y, 3, v);
            CHECK.due("vertex " + v + " is accepted", v == 1 ? 1 : -3, y.graph(2, y.vertex(v, 0)));
        }
    }

    /** Three ECHOs that come to three nodes are three at none of them. */
    private static void notedAtEachNode() {
        WaveLedger x = withForged();
        Play.whisperNow(x, Play.SEND, 0, 1);
        Play.deliverSuch(x, Play.ECHO, 0, 0, 1);
        Play.deliverSuch(x, Play.ECHO, 0, 1, 1);
        Play.deliverSuch(x, Play.ECHO, 0, 2, 1);
        for (int node = 0; node < 3; node++) {
            Play.whisperNow(x, Play.ECHO, node, 1);
        }
        CHECK.due("two at each node", 0, x.run(0));
    }

    /** Node 0 was sent no SEND and one ECHO alone: two READYs are enough. */
    private static void readyIsBroadcastWithoutASend() {
        WaveLedger x = withForged();
        Play.whisperNow(x, Play.SEND, 1, 1);
        Play.whisperNow(x, Play.SEND, 2, 1);
        Play.whisperNow(x, Play.ECHO, 1, 1);
        Play.deliverSuch(x, Play.ECHO, 1, 1, 1);
        Play.deliverSuch(x, Play.ECHO, 2, 1, 1);
        Play.whisperNow(x, Play.READY, 0, 1);
        int before = x.run(0);
        CHECK.due("READY of node 1 comes", true, Play.deliverSuch(x, Play.READY, 1, 0, 1));
        CHECK.due("READY of node 0", "2.0.0.1 2.0.1.1 2.0.2.1", Play.messagesFrom(x, before - 1));
    }

    private static void anotherVertexAfterTheAcceptedOneIsNothing() {
        WaveLedger x = withForged();
        Play.spread(x, 3, 1);
        for (int node = 0; node < 3; node++) {
            Play.whisperNow(x, Play.SEND, node, 2);
            Play.whisperNow(x, Play.ECHO, node, 2);
            Play.whisperNow(x, Play.READY, node, 2);
            Play.whisperNow(x, Play.READY, node, 2);
        }
        CHECK.due("nothing is sent", 0, x.run(0));
        for (int node = 0; node < 3; node++) {
            CHECK.due("graph(" + node + ", 3)", 1, x.graph(node, 3));
        }
    }
}
