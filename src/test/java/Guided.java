/**
 * An object and, beside it, a PlainModel that gets the same calls: the model tells at which place
 * the message that shall come next waits, so that choosing it takes no calls of the object.
 */
final class Guided {
    interface Such {
        boolean is(int kind, int from, int to, int v);
    }

    final WaveLedger x;
    final PlainModel model;
    private final Check check;

    Guided(Check check, int seed, int coins, int faulty) {
        this.check = check;
        this.x = new WaveLedger(seed, coins, faulty);
        this.model = new PlainModel(seed, coins, faulty);
    }

    void transfer(int node, int from, int to, int amount) {
        check.due("transfer", model.transfer(node, from, to, amount), x.transfer(node, from, to, amount));
    }

    void begin() {
        check.due("begin()", model.begin(), x.begin());
    }

    int forge(int round, int strong, long weak, int transfer) {
        int made = model.forge(round, strong, weak, transfer);
        check.due("forge", made, x.forge(round, strong, weak, transfer));
        return made;
    }

    /** SEND of the faulty node to all others. */
    void whisperToAll(int faulty, int v) {
        for (int node = 0; node < 4; node++) {
            if (node != faulty) {
                check.due("whisper", model.whisper(Play.SEND, node, v), x.whisper(Play.SEND, node, v));
            }
        }
    }

    /** The first message that is such comes; false when none is. */
    boolean one(Such such) {
        for (int k = 0; model.message(k, 0) != -1; k++) {
            if (such.is(model.message(k, 0), model.message(k, 1), model.message(k, 2), model.message(k, 3))) {
                check.due("deliver(" + k + ")", model.deliver(k), x.deliver(k));
                return true;
            }
        }
        return false;
    }

    /** Those that are such come, also those that are sent on the way, until none is left. */
    void all(Such such) {
        for (int i = 0; i < 512 && one(such); i++) {
            continue;
        }
    }

    int waiting() {
        return model.run(0);
    }

    int placeOf(int v) {
        return model.vertex(v, 0);
    }
}
