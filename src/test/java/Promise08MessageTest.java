/** Promise 8: what a waiting message is. */
public final class Promise08MessageTest {
    private static final Check CHECK = new Check("Promise08Message");

    public static void main(String[] args) {
        WaveLedger x = new WaveLedger(1, 0, 2);
        CHECK.due("message(0, 0) of none", -1, x.message(0, 0));
        x.begin();
        x.forge(1, 0, 0L, 0);
        x.whisper(Play.READY, 3, 4);
        int[][] due = {
            {0, 0, 0, 1}, {0, 0, 1, 1}, {0, 0, 3, 1},
            {0, 1, 0, 2}, {0, 1, 1, 2}, {0, 1, 3, 2},
            {0, 3, 0, 3}, {0, 3, 1, 3}, {0, 3, 3, 3},
            {2, 2, 3, 4},
        };
        for (int k = 0; k < due.length; k++) {
            for (int what = 0; what < 4; what++) {
                CHECK.due("message(" + k + ", " + what + ")", due[k][what], x.message(k, what));
            }
        }
        int[] wrong = {-1, 4, 5, Integer.MIN_VALUE, Integer.MAX_VALUE};
        for (int what : wrong) {
            CHECK.due("message(0, " + what + ")", -1, x.message(0, what));
        }
        int[] absent = {-1, 10, 11, 2239, 2240, Integer.MIN_VALUE, Integer.MAX_VALUE};
        for (int k : absent) {
            CHECK.due("message(" + k + ", 0)", -1, x.message(k, 0));
        }
        x.deliver(9);
        CHECK.due("message(9, 0) when it came", -1, x.message(9, 0));
        x.deliver(0);
        CHECK.due("message(8, 0): ECHO", 1, x.message(8, 0));
        CHECK.due("message(0, 2): moved up", 1, x.message(0, 2));
        CHECK.end();
    }
}
