import java.util.Random;

/**
 * Rule 7 of LANGUAGE.md: whatever the arguments and the state, also long after the last call that
 * is promised, nothing is thrown but what the document says.
 */
public final class SturdyTest {
    private static final Check CHECK = new Check("Sturdy");
    private static final int[] EDGES = {
        Integer.MIN_VALUE, -1000000, -100, -49, -2, -1, 0, 1, 2, 3, 4, 5, 7, 8, 11, 12, 13, 15, 16, 23, 24, 25,
        47, 48, 49, 60, 72, 73, 74, 99, 100, 101, 512, 1000, 2239, 2240, 2241, 99033, Integer.MAX_VALUE,
    };

    public static void main(String[] args) {
        for (int faulty = -1; faulty < 4; faulty++) {
            for (int run = 0; run < 10; run++) {
                anyCalls(new Random(10L * run + faulty), faulty);
            }
        }
        fullMail();
        CHECK.end();
    }

    private static int any(Random random) {
        return random.nextBoolean() ? EDGES[random.nextInt(EDGES.length)] : random.nextInt(5);
    }

    private static void anyCalls(Random random, int faulty) {
        WaveLedger x = new WaveLedger(any(random), any(random), faulty);
        for (int i = 0; i < 6000; i++) {
            int kind = random.nextInt(13);
            int a = any(random);
            int b = any(random);
            int c = any(random);
            int d = any(random);
            String thrown = Check.thrownBy(() -> call(x, kind, a, b, c, d));
            CHECK.due("faulty " + faulty + ": call " + kind + " of " + a + ", " + b + ", " + c + ", " + d
                    + " throws " + thrown, true, mayThrow(kind, thrown));
        }
    }

    private static long call(WaveLedger x, int kind, int a, int b, int c, int d) {
        switch (kind) {
            case 0: return x.transfer(a, b, c, d);
            case 1: return x.begin() ? 1 : 0;
            case 2: return x.run(a);
            case 3: return x.deliver(a) ? 1 : 0;
            case 4: return x.forge(a, b, c < 0 ? (long) c << 20 : c, d);
            case 5: return x.whisper(a, b, c);
            case 6: return x.message(a, b);
            case 7: return x.vertex(a, b);
            case 8: return x.weak(a);
            case 9: return x.node(a, b);
            case 10: return x.graph(a, b);
            case 11: return x.ordered(a, b);
            default: return x.run(0);
        }
    }

    private static boolean mayThrow(int kind, String thrown) {
        switch (thrown) {
            case Check.NOTHING: return true;
            case Check.ARGUMENT: return kind == 0 || kind == 2 || kind == 4 || kind == 5;
            case Check.STATE: return kind == 0 || kind == 4 || kind == 5;
            default: return false;
        }
    }

    /** More whispers than are promised: whatever is answered, each call answers. */
    private static void fullMail() {
        WaveLedger x = new WaveLedger(1, 0, 2);
        int v = x.forge(1, 0, 0L, 0);
        for (int i = 0; i < 4000; i++) {
            CHECK.due("whisper", Check.NOTHING, Check.thrownBy(() -> x.whisper(Play.ECHO, 0, v)));
        }
        CHECK.due("begin", Check.NOTHING, Check.thrownBy(() -> x.begin() ? 1 : 0));
        for (int i = 0; i < 60; i++) {
            CHECK.due("run", Check.NOTHING, Check.thrownBy(() -> x.run(100)));
        }
    }
}
