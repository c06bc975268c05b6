/** Terms, DRAWING: S is an int that wraps around, and what is drawn is never negative. */
public final class TermDrawingTest {
    private static final Check CHECK = new Check("TermDrawing");

    public static void main(String[] args) {
        seedsAtTheEdges();
        secondDrawIsOfANegativeS();
        everySeedDrawsWhatWaits();
        deliverDrawsNothing();
        otherCallsDrawNothing();
        oneObjectDrawsForItself();
        CHECK.end();
    }

    /** What node receiver echoes shows which of the nine SENDs (three from each of 0, 1, 2) came. */
    private static void firstDrawnOfNine(int seed, int place) {
        WaveLedger x = new WaveLedger(seed, 0, 3);
        x.begin();
        x.run(1);
        int receiver = place % 3;
        int v = place / 3 + 1;
        CHECK.due("seed " + seed + ": the message at " + place + " came",
                "1." + receiver + ".0." + v + " 1." + receiver + ".1." + v + " 1." + receiver + ".2." + v,
                Play.messagesFrom(x, 8));
    }

    private static void seedsAtTheEdges() {
        // S becomes 12345; >>> 16 is 0.
        firstDrawnOfNine(0, 0);
        // 1103527590; >>> 16 is 16838, which is 9 * 1870 + 8.
        firstDrawnOfNine(1, 8);
        // -1103502900, as 3191464396; >>> 16 is 48697, which is 9 * 5410 + 7.
        firstDrawnOfNine(-1, 7);
        // 2^31 + 12345; >>> 16 is 32768, which is 9 * 3640 + 8.
        firstDrawnOfNine(Integer.MIN_VALUE, 8);
        // 2^31 - 1103515245 + 12345; >>> 16 is 15929, which is 9 * 1769 + 8.
        firstDrawnOfNine(Integer.MAX_VALUE, 8);
    }

    /** 1103527590 * 1103515245 + 12345 wraps to 2524885223; >>> 16 is 38526, 19 * 2027 + 13. */
    private static void secondDrawIsOfANegativeS() {
        WaveLedger x = new WaveLedger(1, 0, -1);
        x.begin();
        x.run(1);
        // The message at 6 came, so that at 13 is the SEND of node 3 to node 2.
        CHECK.due("the message at 13", "0.3.2.4", Play.messagesFrom(x, 13).substring(0, 7));
        x.run(1);
        CHECK.due("it came", "1.2.0.4 1.2.1.4 1.2.2.4 1.2.3.4", Play.messagesFrom(x, 18));
    }

    private static void everySeedDrawsWhatWaits() {
        for (int i = 0; i < 64; i++) {
            WaveLedger x = new WaveLedger(i * 0x4924925 - 7, 0, -1);
            x.begin();
            CHECK.due("one came, four were sent: number " + i, 19, x.run(1));
        }
    }

    private static void deliverDrawsNothing() {
        WaveLedger x = new WaveLedger(1, 0, -1);
        x.begin();
        x.deliver(15);
        x.deliver(99);
        // Of the nineteen that wait then, 16838 is 19 * 886 + 4: the SEND of node 1 to node 0.
        x.run(1);
        CHECK.due("the first draw after deliver", "1.0.0.2 1.0.1.2 1.0.2.2 1.0.3.2", Play.messagesFrom(x, 18));
    }

    private static void otherCallsDrawNothing() {
        WaveLedger x = new WaveLedger(1, 0, 3);
        x.transfer(0, 1, 2, 3);
        x.forge(12, 7, 0L, 0);
        x.begin();
        x.begin();
        x.run(0);
        x.whisper(Play.READY, 2, 1);
        x.message(0, 0);
        x.node(0, 0);
        // Of the ten that wait, 16838 is 10 * 1683 + 8: the SEND of node 2 to node 2.
        x.run(1);
        CHECK.due("the first draw", "2.3.2.1 1.2.0.4 1.2.1.4 1.2.2.4", Play.messagesFrom(x, 8));
    }

    private static void oneObjectDrawsForItself() {
        WaveLedger x = new WaveLedger(5, 0, -1);
        WaveLedger other = new WaveLedger(5, 0, -1);
        x.begin();
        other.begin();
        x.run(40);
        String after = Play.messagesFrom(x, 0);
        other.run(40);
        CHECK.due("the same seed, the same messages", after, Play.messagesFrom(other, 0));
    }
}
