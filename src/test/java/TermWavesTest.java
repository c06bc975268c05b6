/** Terms, WAVES: how many must support a leader, and when. */
public final class TermWavesTest {
    private static final Check CHECK = new Check("TermWaves");

    public static void main(String[] args) {
        twoOfFourAreTooFew();
        threeOfFourAreEnough();
        fourOfFourAreEnough();
        supportAfterTheWaveIsDoneIsTooLate();
        aWaveLeftOutIsCommittedWithALaterOne();
        CHECK.end();
    }

    /**
     * Places 3, 7 and 11 of the faulty node 3, each in STRONG of the next, are in the graphs of 1 and
     * 2 when they make round 4, and not in that of 0: a strong path to place 3 leads from places 13
     * and 14, none from place 12, and one from place 15 if its STRONG has place 11.
     */
    private static Guided beforeNode0HasRound4(int coins, int strongOfPlace15, boolean place15ComesEarly) {
        Guided g = new Guided(CHECK, 1, coins, 3);
        g.forge(1, 0, 0L, 30012);
        g.forge(2, 0b1011, 0L, 0);
        g.forge(3, 0b1011, 0L, 0);
        int last = g.forge(4, strongOfPlace15, 0L, 0);
        g.begin();
        g.all((kind, from, to, v) -> v > last && g.placeOf(v) < 8);
        for (int v = 1; v <= 3; v++) {
            g.whisperToAll(3, v);
            g.all((kind, from, to, what) -> what <= 3 && !(kind == Play.READY && to == 0));
        }
        g.all((kind, from, to, v) -> v > last && g.placeOf(v) < 12);
        CHECK.due("own round of 0", 4, g.x.node(0, 0));
        if (place15ComesEarly) {
            g.whisperToAll(3, last);
            g.all((kind, from, to, v) -> v == last);
        }
        g.all((kind, from, to, v) -> v > last && g.placeOf(v) < 16);
        CHECK.due("own round of 0 still", 4, g.x.node(0, 0));
        CHECK.due("places 13, 14 wait at 0", true, g.x.graph(0, 13) < 0 && g.x.graph(0, 14) < 0);
        CHECK.due("place 3 is not accepted by 0", 0, g.x.graph(0, 3));
        return g;
    }

    private static void letNode0Have(Guided g) {
        g.all((kind, from, to, v) -> v <= 3 && kind == Play.READY && to == 0);
        CHECK.due("place 3 is in the graph of 0", 1, g.x.graph(0, 3));
        CHECK.due("place 11 is in the graph of 0", 3, g.x.graph(0, 11));
        CHECK.due("own round of 0 then", 5, g.x.node(0, 0));
    }

    private static void twoOfFourAreTooFew() {
        Guided g = beforeNode0HasRound4(0b11, 0b0111, true);
        letNode0Have(g);
        CHECK.due("places in the graph of 0", 16, g.x.node(0, 3));
        CHECK.due("support of two: wave", 0, g.x.node(0, 1));
        CHECK.due("support of two: ordered", 0, g.x.node(0, 2));
    }

    private static void threeOfFourAreEnough() {
        Guided g = beforeNode0HasRound4(0b11, 0b1011, true);
        letNode0Have(g);
        CHECK.due("places in the graph of 0", 16, g.x.node(0, 3));
        CHECK.due("support of three: wave", 1, g.x.node(0, 1));
        CHECK.due("support of three: order", "3", Play.orderOf(g.x, 0));
        CHECK.due("its transfer is made", "100 70 130 100", Play.balancesOf(g.x, 0));
    }

    /** Coins 0: all of round 4 lead to place 0. */
    private static void fourOfFourAreEnough() {
        Guided g = beforeNode0HasRound4(0b00, 0b1011, true);
        letNode0Have(g);
        CHECK.due("support of four: wave", 1, g.x.node(0, 1));
        CHECK.due("support of four: order", "0", Play.orderOf(g.x, 0));
        CHECK.due("place 3 is not ordered, nor its transfer made", "100 100 100 100", Play.balancesOf(g.x, 0));
    }

    private static void supportAfterTheWaveIsDoneIsTooLate() {
        Guided g = beforeNode0HasRound4(0b11, 0b1011, false);
        letNode0Have(g);
        CHECK.due("support of two of three: wave", 0, g.x.node(0, 1));
        g.whisperToAll(3, 4);
        g.all((kind, from, to, v) -> v == 4);
        CHECK.due("place 15 is in the graph of 0", 4, g.x.graph(0, 15));
        CHECK.due("the third support: wave", 0, g.x.node(0, 1));
        CHECK.due("own round of 0", 5, g.x.node(0, 0));
        g.all((kind, from, to, v) -> g.placeOf(v) < 20);
        CHECK.due("own round of 0 when it went on", 6, g.x.node(0, 0));
        CHECK.due("it is done no more: wave", 0, g.x.node(0, 1));
    }

    /** Wave 1 is done without support enough; wave 2, with place 16, has its leader come first. */
    private static void aWaveLeftOutIsCommittedWithALaterOne() {
        Guided g = beforeNode0HasRound4(0b00_00_11, 0b0111, true);
        letNode0Have(g);
        CHECK.due("wave 1 was done and left out", 0, g.x.node(0, 1));
        for (int i = 0; i < 20 && g.model.run(100) + g.x.run(100) > 0; i++) {
            continue;
        }
        for (int node = 0; node < 3; node++) {
            CHECK.due("latest wave of " + node, 3, g.x.node(node, 1));
            CHECK.due("the leader of wave 1 is the first of " + node, 3, g.x.ordered(node, 0));
            CHECK.due("then the least of what wave 2 leads to", 0, g.x.ordered(node, 1));
            CHECK.due("ordered by " + node, g.model.node(node, 2), g.x.node(node, 2));
        }
    }
}
