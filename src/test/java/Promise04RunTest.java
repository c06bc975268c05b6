/** Promise 4: run has drawn messages come. */
public final class Promise04RunTest {
    private static final Check CHECK = new Check("Promise04Run");

    /** S, kept apart from the class, in the low 32 bits. */
    private static long state;

    public static void main(String[] args) {
        wrongArguments();
        runIsDeliverAtDrawnPlaces(1);
        runIsDeliverAtDrawnPlaces(-1);
        runIsDeliverAtDrawnPlaces(Integer.MIN_VALUE);
        runIsDeliverAtDrawnPlaces(987654321);
        noneIsDrawnWhenNoneWaits();
        oneOfOneIsDrawnToo();
        manyAtOnceIsOneByOne();
        CHECK.end();
    }

    private static int draw(int n) {
        state = state * 1103515245L + 12345L & 0xffffffffL;
        return (int) ((state >> 16) % n);
    }

    private static void wrongArguments() {
        WaveLedger x = new WaveLedger(1, 0, -1);
        WaveLedger twin = new WaveLedger(1, 0, -1);
        x.begin();
        twin.begin();
        int[] wrong = {-1, 101, Integer.MIN_VALUE, Integer.MAX_VALUE};
        for (int n : wrong) {
            CHECK.refused("run(" + n + ")", Check.ARGUMENT, () -> x.run(n));
        }
        CHECK.due("run(0)", 16, x.run(0));
        CHECK.due("what threw drew nothing", twin.run(100), x.run(100));
        CHECK.due("the same messages", Play.messagesFrom(twin, 0), Play.messagesFrom(x, 0));
    }

    private static void runIsDeliverAtDrawnPlaces(int seed) {
        WaveLedger x = new WaveLedger(seed, 0, -1);
        WaveLedger twin = new WaveLedger(seed + 1, 0, -1);
        state = seed & 0xffffffffL;
        x.begin();
        twin.begin();
        int waiting = 16;
        for (int i = 0; i < 120; i++) {
            twin.deliver(draw(waiting));
            waiting = twin.run(0);
            CHECK.due("seed " + seed + ": run(1), number " + i, waiting, x.run(1));
        }
        CHECK.due("seed " + seed + ": messages", Play.messagesFrom(twin, 0), Play.messagesFrom(x, 0));
    }

    private static void noneIsDrawnWhenNoneWaits() {
        WaveLedger x = new WaveLedger(1, 0, -1);
        WaveLedger twin = new WaveLedger(1, 0, -1);
        CHECK.due("run(5) before begin()", 0, x.run(5));
        x.begin();
        twin.begin();
        twin.run(50);
        x.run(50);
        CHECK.due("it drew nothing", Play.messagesFrom(twin, 0), Play.messagesFrom(x, 0));
    }

    private static void oneOfOneIsDrawnToo() {
        WaveLedger x = new WaveLedger(1, 0, 3);
        x.forge(1, 0, 0L, 0);
        x.whisper(Play.READY, 0, 1);
        CHECK.due("run(100) with one message", 0, x.run(100));
        x.begin();
        state = 1;
        draw(1);
        int k = draw(9);
        int to = x.message(k, 2);
        int v = x.message(k, 3);
        x.run(1);
        CHECK.due("the second draw", "1." + to + ".0." + v + " 1." + to + ".1." + v + " 1." + to + ".2." + v,
                Play.messagesFrom(x, 8));
    }

    private static void manyAtOnceIsOneByOne() {
        WaveLedger x = new WaveLedger(77, 0, -1);
        WaveLedger twin = new WaveLedger(77, 0, -1);
        x.begin();
        twin.begin();
        x.run(100);
        x.run(37);
        for (int i = 0; i < 137; i++) {
            twin.run(1);
        }
        CHECK.due("messages", Play.messagesFrom(twin, 0), Play.messagesFrom(x, 0));
    }
}
