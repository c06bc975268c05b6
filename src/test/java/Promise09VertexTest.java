/** Promise 9: what a vertex is, and what STRONG a node gives its own. */
public final class Promise09VertexTest {
    private static final Check CHECK = new Check("Promise09Vertex");

    public static void main(String[] args) {
        answers();
        wrongArguments();
        strongIsAllOfTheRoundBefore();
        strongHasTheFaultyPlaceToo();
        CHECK.end();
    }

    private static void answers() {
        WaveLedger x = new WaveLedger(1, 0, 0);
        x.transfer(2, 1, 3, 42);
        x.forge(11, 13, 0L, 9000);
        x.begin();
        int[][] due = {{40, 13, 9000}, {1, 0, 0}, {2, 0, 42013}, {3, 0, 0}};
        for (int v = 1; v <= 4; v++) {
            for (int what = 0; what < 3; what++) {
                CHECK.due("vertex(" + v + ", " + what + ")", due[v - 1][what], x.vertex(v, what));
            }
        }
    }

    private static void wrongArguments() {
        WaveLedger x = new WaveLedger(1, 0, -1);
        CHECK.due("none was made", -1, x.vertex(1, 0));
        x.begin();
        int[] absent = {0, -1, 5, 72, 73, 74, Integer.MIN_VALUE, Integer.MAX_VALUE};
        for (int v : absent) {
            CHECK.due("vertex(" + v + ", 0)", -1, x.vertex(v, 0));
        }
        int[] wrong = {-1, 3, 4, Integer.MIN_VALUE, Integer.MAX_VALUE};
        for (int what : wrong) {
            CHECK.due("vertex(1, " + what + ")", -1, x.vertex(1, what));
        }
    }

    private static void strongIsAllOfTheRoundBefore() {
        for (int faulty = 0; faulty < 4; faulty++) {
            WaveLedger x = new WaveLedger(50 + faulty, 0, faulty);
            x.begin();
            Play.settle(x);
            for (int v = 1; v <= 36; v++) {
                CHECK.due("faulty " + faulty + ": vertex(" + v + ", 1)",
                        x.vertex(v, 0) < 4 ? 0 : 15 & ~(1 << faulty), x.vertex(v, 1));
            }
            CHECK.due("faulty " + faulty + ": twelve rounds alone", -1, x.vertex(37, 0));
        }
    }

    /** Place 3 is in all graphs before they begin, so that three places are two others and it. */
    private static void strongHasTheFaultyPlaceToo() {
        WaveLedger x = new WaveLedger(1, 0, 3);
        Play.spread(x, 3, x.forge(1, 0, 0L, 0));
        x.begin();
        Play.settle(x);
        for (int v = 2; v <= 37; v++) {
            if (Play.place(2, 0) <= x.vertex(v, 0) && x.vertex(v, 0) < Play.place(3, 0)) {
                int strong = x.vertex(v, 1);
                CHECK.due("vertex " + v + " has three or four", true, Integer.bitCount(strong) >= 3);
                CHECK.due("vertex " + v + " has place 3", 8, strong & 8);
            }
        }
    }
}
