/**
 * Terms: "A call that throws changes nothing, and throws the first of what it lists that is due."
 * Each refused call is put to one of two like objects; afterwards both answer the same.
 */
public final class RefusedCallsTest {
    private static final Check CHECK = new Check("RefusedCalls");

    private interface Use {
        void of(WaveLedger x);
    }

    public static void main(String[] args) {
        transferArguments();
        transferWhenTwelveWait();
        runArguments();
        forgeArguments();
        forgeWhenTwentyFourWereMade();
        forgeWithoutAFaultyNode();
        whisperArguments();
        whisperWithoutAFaultyNode();
        CHECK.end();
    }

    private static void refused(String what, String thrown, int faulty, Use before, Use call) {
        WaveLedger now = used(faulty, before);
        CHECK.refused(what, thrown, () -> answered(call, now));
        CHECK.due(what + ": state", stateOf(used(faulty, before)), stateOf(now));
        WaveLedger then = used(faulty, before);
        CHECK.refused(what + ", again", thrown, () -> answered(call, then));
        CHECK.due(what + ": what comes of it", endOf(used(faulty, before)), endOf(then));
    }

    private static WaveLedger used(int faulty, Use before) {
        WaveLedger x = new WaveLedger(11, 0b00_01_10, faulty);
        before.of(x);
        return x;
    }

    private static long answered(Use call, WaveLedger x) {
        call.of(x);
        return 0;
    }

    /** What can be asked, but for the empty graphs of nodes that were sent next to nothing. */
    private static String stateOf(WaveLedger x) {
        StringBuilder text = new StringBuilder(Play.messagesFrom(x, 0));
        for (int v = 1; x.vertex(v, 0) != -1; v++) {
            text.append('\n').append(x.vertex(v, 0)).append(' ').append(x.vertex(v, 1))
                    .append(' ').append(x.vertex(v, 2)).append(' ').append(x.weak(v));
        }
        for (int node = 0; node < 4; node++) {
            text.append('\n');
            for (int what = 0; what < 8; what++) {
                text.append(x.node(node, what)).append(' ');
            }
            for (int place = 0; place < 8; place++) {
                text.append(x.graph(node, place)).append(' ');
            }
            text.append(x.ordered(node, 0));
        }
        return text.toString();
    }

    /** How it ends shows S and the transfers that waited. */
    private static String endOf(WaveLedger x) {
        StringBuilder text = new StringBuilder();
        text.append(x.begin()).append(' ').append(x.run(100)).append(' ');
        text.append(Play.messagesFrom(x, 0)).append('\n');
        Play.settle(x);
        for (int v = 1; x.vertex(v, 0) != -1; v++) {
            text.append(x.vertex(v, 2)).append(' ');
        }
        text.append(Play.balancesOf(x, 1));
        for (int node = 0; node < 4; node++) {
            text.append(' ').append(x.node(node, 2));
        }
        return text.toString();
    }

    private static void transferArguments() {
        int[][] wrong = {
            {-1, 0, 1, 5}, {4, 0, 1, 5}, {3, 0, 1, 5}, {0, -1, 1, 5}, {0, 4, 1, 5}, {0, 0, -1, 5},
            {0, 0, 4, 5}, {0, 0, 1, 0}, {0, 0, 1, 100}, {0, 0, 1, -5}, {3, 9, 9, 999},
        };
        for (int[] w : wrong) {
            refused("transfer(" + w[0] + ", " + w[1] + ", " + w[2] + ", " + w[3] + ")", Check.ARGUMENT, 3,
                    x -> x.transfer(0, 2, 3, 44), x -> x.transfer(w[0], w[1], w[2], w[3]));
        }
    }

    private static void twelve(WaveLedger x) {
        for (int i = 1; i <= 12; i++) {
            x.transfer(1, 0, 1, i);
        }
    }

    private static void transferWhenTwelveWait() {
        refused("12 wait", Check.STATE, 3, RefusedCallsTest::twelve, x -> x.transfer(1, 2, 3, 77));
        int[][] wrong = {{-1, 0, 1, 5}, {3, 0, 1, 5}, {1, 4, 1, 5}, {1, 0, -1, 5}, {1, 0, 1, 0}, {1, 0, 1, 100}};
        for (int[] w : wrong) {
            refused("12 wait, transfer(" + w[0] + ", " + w[1] + ", " + w[2] + ", " + w[3] + ")", Check.ARGUMENT, 3,
                    RefusedCallsTest::twelve, x -> x.transfer(w[0], w[1], w[2], w[3]));
        }
    }

    private static void runArguments() {
        int[] wrong = {-1, 101, 200, Integer.MIN_VALUE, Integer.MAX_VALUE};
        for (int n : wrong) {
            refused("run(" + n + ")", Check.ARGUMENT, -1, WaveLedger::begin, x -> x.run(n));
            refused("run(" + n + ") when none waits", Check.ARGUMENT, -1, x -> x.run(0), x -> x.run(n));
        }
    }

    private static final int[][] WRONG_FORGES = {
        {0, 0, 0, 0}, {13, 0, 0, 0}, {-1, 0, 0, 0}, {1, -1, 0, 0}, {1, 16, 0, 0}, {1, 0, 48, 0}, {1, 0, 63, 0},
        {1, 0, 0, -1}, {1, 0, 0, 1}, {1, 0, 0, 999}, {1, 0, 0, 1004}, {1, 0, 0, 1040}, {1, 0, 0, 100000},
    };

    /** The third number is a bit of WEAK; 0 stands for no bit. */
    private static void wrongForge(WaveLedger x, int[] w) {
        x.forge(w[0], w[1], w[2] == 0 ? 0L : 1L << w[2], w[3]);
    }

    private static void wrongForges(String when, int faulty, Use before) {
        for (int[] w : WRONG_FORGES) {
            refused(when + "forge(" + w[0] + ", " + w[1] + ", bit " + w[2] + ", " + w[3] + ")", Check.ARGUMENT,
                    faulty, before, x -> wrongForge(x, w));
        }
    }

    private static void forgeArguments() {
        wrongForges("", 3, x -> x.forge(2, 7, 0L, 1000));
        WaveLedger x = new WaveLedger(1, 0, 3);
        for (int[] w : WRONG_FORGES) {
            CHECK.refused("forge before the 24", Check.ARGUMENT, () -> answered(y -> wrongForge(y, w), x));
        }
        for (int i = 1; i <= 24; i++) {
            CHECK.due("refused ones are not among the 24", i, x.forge(1, 0, 0L, 0));
        }
    }

    private static void twentyFour(WaveLedger x) {
        for (int i = 1; i <= 24; i++) {
            x.forge(1 + i % 12, 7, 0L, 1000 * i);
        }
    }

    private static void forgeWhenTwentyFourWereMade() {
        refused("the 25th", Check.STATE, 2, RefusedCallsTest::twentyFour, x -> x.forge(1, 0, 0L, 0));
        wrongForges("24 were made: ", 2, RefusedCallsTest::twentyFour);
    }

    private static void forgeWithoutAFaultyNode() {
        refused("none is faulty: forge", Check.STATE, -1, WaveLedger::begin, x -> x.forge(1, 0, 0L, 0));
        wrongForges("none is faulty: ", -1, WaveLedger::begin);
    }

    private static void wrongWhispers(String when, int faulty, Use before) {
        int[][] wrong = {
            {-1, 0, 1}, {3, 0, 1}, {0, -1, 1}, {0, 4, 1}, {0, 0, 0}, {0, 0, -1}, {2, 0, 5}, {1, 0, Integer.MAX_VALUE},
        };
        for (int[] w : wrong) {
            refused(when + "whisper(" + w[0] + ", " + w[1] + ", " + w[2] + ")", Check.ARGUMENT,
                    faulty, before, x -> x.whisper(w[0], w[1], w[2]));
        }
    }

    private static void begunWithOneForged(WaveLedger x) {
        x.forge(1, 0, 0L, 0);
        x.begin();
    }

    private static void whisperArguments() {
        wrongWhispers("", 3, RefusedCallsTest::begunWithOneForged);
        for (int kind = 0; kind < 3; kind++) {
            int such = kind;
            refused("whisper to the faulty node", Check.ARGUMENT, 3, RefusedCallsTest::begunWithOneForged,
                    x -> x.whisper(such, 3, 1));
        }
    }

    private static void whisperWithoutAFaultyNode() {
        for (int kind = 0; kind < 3; kind++) {
            int such = kind;
            refused("none is faulty: whisper", Check.STATE, -1, WaveLedger::begin, x -> x.whisper(such, such, 1));
        }
        wrongWhispers("none is faulty: ", -1, WaveLedger::begin);
        refused("none is faulty, no vertex", Check.ARGUMENT, -1, x -> x.run(0), x -> x.whisper(0, 0, 1));
    }
}
