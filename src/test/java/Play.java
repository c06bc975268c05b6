/** Ways to bring an object into a state, all by calls of the document's face. */
final class Play {
    static final int SEND = 0;
    static final int ECHO = 1;
    static final int READY = 2;

    private Play() {
    }

    static int place(int round, int source) {
        return 4 * (round - 1) + source;
    }

    static int waiting(WaveLedger x) {
        return x.run(0);
    }

    /** All messages come, in drawn order; what four nodes send takes 18 calls. */
    static void settle(WaveLedger x) {
        for (int i = 0; i < 25 && x.run(100) > 0; i++) {
            continue;
        }
    }

    /** Has three nodes that are not faulty accept a forged vertex, when nothing else waits. */
    static void spread(WaveLedger x, int faulty, int v) {
        for (int node = 0; node < 4; node++) {
            if (node != faulty) {
                x.whisper(SEND, node, v);
            }
        }
        x.run(100);
    }

    /** Whispers and has it come at once. */
    static void whisperNow(WaveLedger x, int kind, int node, int v) {
        int waiting = x.whisper(kind, node, v);
        x.deliver(waiting - 1);
    }

    /** Has the one message come that is so; false when none waits. */
    static boolean deliverSuch(WaveLedger x, int kind, int from, int to, int v) {
        int waiting = waiting(x);
        for (int k = 0; k < waiting; k++) {
            if (isSuch(x, k, kind, from, to, v)) {
                return x.deliver(k);
            }
        }
        return false;
    }

    static boolean isSuch(WaveLedger x, int k, int kind, int from, int to, int v) {
        return x.message(k, 0) == kind && x.message(k, 1) == from
                && x.message(k, 2) == to && x.message(k, 3) == v;
    }

    /** The messages from place k on, as text: kind, sender, receiver, vertex. */
    static String messagesFrom(WaveLedger x, int k) {
        StringBuilder text = new StringBuilder();
        int waiting = waiting(x);
        for (int i = k; i < waiting; i++) {
            text.append(text.length() == 0 ? "" : " ");
            for (int what = 0; what < 4; what++) {
                text.append(what == 0 ? "" : ".").append(x.message(i, what));
            }
        }
        return text.toString();
    }

    static String orderOf(WaveLedger x, int node) {
        StringBuilder text = new StringBuilder();
        for (int k = 0; x.ordered(node, k) != -1; k++) {
            text.append(k == 0 ? "" : " ").append(x.ordered(node, k));
        }
        return text.toString();
    }

    static String balancesOf(WaveLedger x, int node) {
        StringBuilder text = new StringBuilder();
        for (int account = 0; account < 4; account++) {
            text.append(account == 0 ? "" : " ").append(x.node(node, 4 + account));
        }
        return text.toString();
    }
}
