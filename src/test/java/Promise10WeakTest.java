/** Promise 10: WEAK of a vertex, and what of it a node gives its own. */
public final class Promise10WeakTest {
    private static final Check CHECK = new Check("Promise10Weak");

    public static void main(String[] args) {
        answers();
        noneWhereAllIsReached();
        thirdOfARoundIsLeftBehind();
        onlyWhatNoPathReaches();
        CHECK.end();
    }

    private static void answers() {
        WaveLedger x = new WaveLedger(1, 0, 3);
        CHECK.due("weak(1) of none", -1, x.weak(1));
        x.forge(7, 7, 1L << 47 | 9L, 0);
        x.forge(7, 7, (1L << 48) - 1L, 0);
        CHECK.due("weak(1)", 1L << 47 | 9L, x.weak(1));
        CHECK.due("weak(2)", (1L << 48) - 1L, x.weak(2));
        int[] absent = {0, 3, -1, 73, Integer.MIN_VALUE, Integer.MAX_VALUE};
        for (int v : absent) {
            CHECK.due("weak(" + v + ")", -1, x.weak(v));
        }
    }

    private static void noneWhereAllIsReached() {
        WaveLedger x = new WaveLedger(1, 0, 1);
        x.begin();
        Play.settle(x);
        for (int v = 1; v <= 36; v++) {
            CHECK.due("weak(" + v + ")", 0, x.weak(v));
        }
    }

    /** By turns of what was sent first, all take the vertices of 0, 1, 2 and go on before 3's. */
    private static void thirdOfARoundIsLeftBehind() {
        WaveLedger x = new WaveLedger(1, 0, -1);
        x.begin();
        for (int i = 0; i < 144 * 3; i++) {
            x.deliver(0);
        }
        for (int v = 5; v <= 8; v++) {
            CHECK.due("round 2: vertex(" + v + ", 1)", 7, x.vertex(v, 1));
            CHECK.due("round 2: weak(" + v + ")", 0, x.weak(v));
        }
        for (int v = 9; v <= 12; v++) {
            CHECK.due("round 3: vertex(" + v + ", 1)", 7, x.vertex(v, 1));
            CHECK.due("round 3: weak(" + v + ")", 1L << 3, x.weak(v));
        }
        for (int v = 13; v <= 16; v++) {
            CHECK.due("round 4: vertex(" + v + ", 1)", 7, x.vertex(v, 1));
            CHECK.due("round 4: weak(" + v + ")", 1L << 7, x.weak(v));
        }
        CHECK.due("no round 5 yet", -1, x.vertex(17, 0));
    }

    /**
     * Places 3 and 7 of the faulty node come late, place 7 with a path to all of round 1: the next
     * vertices take place 7 alone, and place 3 only where it isn't in STRONG of place 7.
     */
    private static void onlyWhatNoPathReaches() {
        CHECK.due("place 7 leads to place 3", 1L << 7, weakOfRound4(15));
        CHECK.due("place 7 does not lead to place 3", 1L << 7 | 1L << 3, weakOfRound4(7));
    }

    private static long weakOfRound4(int strongOfPlace7) {
        WaveLedger x = new WaveLedger(5, 0, 3);
        int first = x.forge(1, 0, 0L, 0);
        int second = x.forge(2, strongOfPlace7, 0L, 0);
        x.begin();
        // Sixty-three messages a round: SENDs, ECHOs, READYs; all of round 3 but its READYs.
        for (int i = 0; i < 63 * 2 + 9 + 27; i++) {
            x.deliver(0);
        }
        CHECK.due("own round of 0", 3, x.node(0, 0));
        takeAtOnce(x, first);
        takeAtOnce(x, second);
        CHECK.due("place 7 is in the graph of 0", second, x.graph(0, 7));
        CHECK.due("own round of 0 still", 3, x.node(0, 0));
        for (int i = 0; i < 63 && x.node(0, 0) < 4; i++) {
            x.deliver(0);
        }
        int v = first;
        for (int i = 1; i <= 20; i++) {
            v = x.vertex(i, 0) == Play.place(4, 0) ? i : v;
        }
        CHECK.due("STRONG of it", 7, x.vertex(v, 1));
        return x.weak(v);
    }

    /** The twenty-one messages about a forged vertex come before all that wait. */
    private static void takeAtOnce(WaveLedger x, int v) {
        int others = x.run(0);
        for (int node = 0; node < 3; node++) {
            x.whisper(Play.SEND, node, v);
        }
        for (int i = 0; i < 21; i++) {
            x.deliver(others);
        }
        CHECK.due("only the others wait", others, x.run(0));
    }
}
