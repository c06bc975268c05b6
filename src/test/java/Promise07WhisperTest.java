/** Promise 7: the faulty node's messages. */
public final class Promise07WhisperTest {
    private static final Check CHECK = new Check("Promise07Whisper");

    public static void main(String[] args) {
        waitsLast();
        wrongArguments();
        noneWithoutAFaultyNode();
        aboutAnyVertex();
        twoVerticesForOnePlace();
        many();
        allOfTheCallsThatArePromised();
        CHECK.end();
    }

    private static void waitsLast() {
        WaveLedger x = new WaveLedger(1, 0, 1);
        x.begin();
        x.forge(1, 0, 0L, 0);
        CHECK.due("SEND", 10, x.whisper(0, 0, 4));
        CHECK.due("ECHO", 11, x.whisper(1, 2, 4));
        CHECK.due("READY", 12, x.whisper(2, 3, 1));
        CHECK.due("messages", "0.1.0.4 1.1.2.4 2.1.3.1", Play.messagesFrom(x, 9));
    }

    private static void wrongArguments() {
        WaveLedger x = new WaveLedger(1, 0, 1);
        CHECK.refused("no vertex yet", Check.ARGUMENT, () -> x.whisper(0, 0, 1));
        x.forge(1, 0, 0L, 0);
        int[][] wrong = {
            {-1, 0, 1}, {3, 0, 1}, {Integer.MAX_VALUE, 0, 1},
            {0, -1, 1}, {0, 4, 1}, {0, 1, 1}, {2, Integer.MIN_VALUE, 1},
            {0, 0, 0}, {0, 0, -1}, {0, 0, 2}, {1, 0, 73}, {1, 0, Integer.MAX_VALUE}, {2, 0, Integer.MIN_VALUE},
        };
        for (int[] w : wrong) {
            CHECK.refused("whisper(" + w[0] + ", " + w[1] + ", " + w[2] + ")",
                    Check.ARGUMENT, () -> x.whisper(w[0], w[1], w[2]));
        }
        CHECK.due("what threw sent nothing", 0, x.run(0));
    }

    private static void noneWithoutAFaultyNode() {
        WaveLedger x = new WaveLedger(1, 0, 4);
        CHECK.refused("no such vertex comes first", Check.ARGUMENT, () -> x.whisper(0, 0, 1));
        x.begin();
        CHECK.refused("whisper", Check.STATE, () -> x.whisper(0, 0, 1));
        CHECK.refused("kind 3 comes first", Check.ARGUMENT, () -> x.whisper(3, 0, 1));
        CHECK.due("nothing was sent", 16, x.run(0));
    }

    /** The ECHO of the faulty node about another's vertex counts as one of three. */
    private static void aboutAnyVertex() {
        WaveLedger x = new WaveLedger(1, 0, 3);
        x.begin();
        Play.deliverSuch(x, Play.SEND, 0, 0, 1);
        Play.deliverSuch(x, Play.SEND, 0, 1, 1);
        Play.deliverSuch(x, Play.ECHO, 0, 2, 1);
        Play.deliverSuch(x, Play.ECHO, 1, 2, 1);
        int before = x.run(0);
        Play.whisperNow(x, Play.ECHO, 2, 1);
        CHECK.due("READY of node 2", "2.2.0.1 2.2.1.1 2.2.2.1", Play.messagesFrom(x, before));
    }

    /** Two nodes and the faulty one stand for vertex 2: then node 2 takes it, too. */
    private static void twoVerticesForOnePlace() {
        WaveLedger x = new WaveLedger(1, 0, 3);
        x.forge(1, 0, 0L, 0);
        x.forge(1, 0, 0L, 5012);
        x.whisper(Play.SEND, 0, 2);
        x.whisper(Play.SEND, 1, 2);
        x.whisper(Play.SEND, 2, 1);
        x.run(100);
        CHECK.due("two ECHOs are not enough", 0, x.graph(0, 3));
        x.whisper(Play.ECHO, 2, 1);
        x.whisper(Play.ECHO, 0, 2);
        x.run(100);
        CHECK.due("one READY is not enough", 0, x.graph(0, 3));
        x.whisper(Play.ECHO, 1, 2);
        x.run(100);
        for (int node = 0; node < 3; node++) {
            CHECK.due("graph(" + node + ", 3)", 2, x.graph(node, 3));
        }
    }

    private static void many() {
        WaveLedger x = new WaveLedger(1, 0, 0);
        x.forge(1, 0, 0L, 0);
        for (int i = 1; i <= 480; i++) {
            CHECK.due("whisper number " + i, i, x.whisper(i % 3, 1 + i % 3, 1));
        }
        x.begin();
        CHECK.due("all wait", 489, x.run(0));
        CHECK.due("the last one of them", 1, x.message(479, 1) + x.message(479, 2));
    }

    /** One forge and 511 whispers: after the 512th call all of them wait. */
    private static void allOfTheCallsThatArePromised() {
        WaveLedger x = new WaveLedger(1, 0, 0);
        x.forge(12, 0, 0L, 0);
        for (int i = 1; i <= 511; i++) {
            CHECK.due("whisper number " + i, i, x.whisper(Play.SEND, 1 + i % 3, 1));
        }
    }
}
