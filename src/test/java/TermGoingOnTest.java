/** Terms, OWN ROUND: when a node goes on, and what its next vertex has then. */
public final class TermGoingOnTest {
    private static final Check CHECK = new Check("TermGoingOn");

    public static void main(String[] args) {
        twoPlacesAreNotEnough();
        whatIsNotRightDoesNotCount();
        whatWaitsForOthersDoesNotCount();
        theFourthPlaceComesTooLate();
        asLongAsItMay();
        weakIsFoundFromTheUpperRoundDown();
        roundsOneAndTwoHaveNoWeak();
        noThirteenthRound();
        CHECK.end();
    }

    private static boolean among(int place, int low, int high) {
        return place >= low && place <= high;
    }

    private static void twoPlacesAreNotEnough() {
        Guided g = new Guided(CHECK, 1, 0, -1);
        g.begin();
        g.all((kind, from, to, v) -> v <= 2);
        for (int node = 0; node < 4; node++) {
            CHECK.due("two places: own round of " + node, 1, g.x.node(node, 0));
            CHECK.due("two places in the graph of " + node, 2, g.x.node(node, 3));
        }
        CHECK.due("two places: no fifth vertex", -1, g.x.vertex(5, 0));
        g.all((kind, from, to, v) -> v == 4 && to != 2);
        for (int node = 0; node < 4; node++) {
            CHECK.due("three places: own round of " + node, node == 2 ? 1 : 2, g.x.node(node, 0));
        }
        CHECK.due("three places: STRONG", 0b1011, g.x.vertex(5, 1));
    }

    /** Two places and a vertex that isn't right are not three. */
    private static void whatIsNotRightDoesNotCount() {
        Guided g = new Guided(CHECK, 1, 0, 3);
        int wrong = g.forge(1, 1, 0L, 0);
        g.begin();
        g.whisperToAll(3, wrong);
        g.all((kind, from, to, v) -> g.placeOf(v) != 2);
        CHECK.due("two and a wrong one: accepted", -wrong, g.x.graph(0, 3));
        CHECK.due("two and a wrong one: own round", 1, g.x.node(0, 0));
        g.all((kind, from, to, v) -> g.placeOf(v) == 2);
        CHECK.due("three: own round", 2, g.x.node(0, 0));
        CHECK.due("three: STRONG has not the wrong one", 7, g.x.vertex(5, 1));
    }

    /** Place 7 is accepted and right, but its STRONG has place 3, which nobody has. */
    private static void whatWaitsForOthersDoesNotCount() {
        Guided g = new Guided(CHECK, 1, 0, 3);
        int early = g.forge(2, 15, 0L, 0);
        g.whisperToAll(3, early);
        g.all((kind, from, to, v) -> true);
        g.begin();
        g.all((kind, from, to, v) -> g.placeOf(v) < Play.place(2, 2));
        CHECK.due("two and one that waits: accepted", -early, g.x.graph(0, 7));
        CHECK.due("two and one that waits: places", 5, g.x.node(0, 3));
        CHECK.due("two and one that waits: own round", 2, g.x.node(0, 0));
        g.all((kind, from, to, v) -> g.placeOf(v) == Play.place(2, 2));
        CHECK.due("three of round 2: own round", 3, g.x.node(0, 0));
        CHECK.due("three of round 2: STRONG", 7, g.x.vertex(8, 1));
        CHECK.due("three of round 2: WEAK", 0, g.x.weak(8));
    }

    /** Node 0 goes on with 0, 1, 2 of round 1; then place 3 is added, which changes nothing more. */
    private static void theFourthPlaceComesTooLate() {
        Guided g = new Guided(CHECK, 1, 0, -1);
        g.begin();
        g.all((kind, from, to, v) -> v <= 3);
        CHECK.due("own round", 2, g.x.node(0, 0));
        g.all((kind, from, to, v) -> v == 4);
        CHECK.due("the fourth place", 4, g.x.graph(0, 3));
        CHECK.due("own round still", 2, g.x.node(0, 0));
        CHECK.due("STRONG still", 7, g.x.vertex(5, 1));
        CHECK.due("no more vertices", -1, g.x.vertex(9, 0));
    }

    /** Node 3 takes rounds 4, 3 and 2 before round 1: the last READY brings it from round 1 to 5. */
    private static void asLongAsItMay() {
        Guided g = new Guided(CHECK, 1, 0b10, -1);
        g.transfer(0, 0, 1, 20);
        for (int i = 1; i <= 6; i++) {
            g.transfer(3, 1, 2, i);
        }
        g.begin();
        g.all((kind, from, to, v) -> from != 3 && to != 3 && g.placeOf(v) < 16);
        for (int node = 0; node < 3; node++) {
            CHECK.due("own round of " + node, 5, g.x.node(node, 0));
        }
        for (int round = 4; round >= 2; round--) {
            int first = Play.place(round, 0);
            g.all((kind, from, to, v) -> kind == Play.READY && to == 3 && from != 3
                    && among(g.placeOf(v), first, first + 2));
        }
        g.all((kind, from, to, v) -> kind == Play.READY && to == 3 && from < 3 && g.placeOf(v) < 2);
        g.one((kind, from, to, v) -> kind == Play.READY && to == 3 && from < 3 && v == 3);
        g.one((kind, from, to, v) -> kind == Play.READY && to == 3 && from < 3 && v == 3);
        CHECK.due("own round of 3 before", 1, g.x.node(3, 0));
        CHECK.due("places in its graph before", 2, g.x.node(3, 3));
        CHECK.due("what it accepted waits", true, g.x.graph(3, Play.place(4, 2)) < 0);
        int waiting = g.waiting();
        g.one((kind, from, to, v) -> kind == Play.READY && to == 3 && from < 3 && v == 3);
        CHECK.due("own round of 3 then", 5, g.x.node(3, 0));
        CHECK.due("places in its graph then", 12, g.x.node(3, 3));
        CHECK.due("wave 1 was done on the way", 1, g.x.node(3, 1));
        CHECK.due("and its leader ordered", 2, g.x.ordered(3, 0));
        CHECK.due("a place alone was ordered", 1, g.x.node(3, 2));
        fourVerticesAtOnce(g, waiting - 1);
    }

    private static void fourVerticesAtOnce(Guided g, int from) {
        StringBuilder sends = new StringBuilder();
        for (int round = 2; round <= 5; round++) {
            int v = g.model.message(from + 4 * (round - 2), 3);
            CHECK.due("place of round " + round, Play.place(round, 3), g.x.vertex(v, 0));
            CHECK.due("STRONG of round " + round, 7, g.x.vertex(v, 1));
            CHECK.due("transfer of round " + round, 1000 * round + 12, g.x.vertex(v, 2));
            CHECK.due("WEAK of round " + round, 0, g.x.weak(v));
            for (int to = 0; to < 4; to++) {
                sends.append(sends.length() == 0 ? "" : " ").append("0.3.").append(to).append('.').append(v);
            }
        }
        CHECK.due("their SENDs", sends.toString(), Play.messagesFrom(g.x, from));
    }

    /**
     * Places 3, 7 and 11 of the faulty node come late to all. Place 11 leads to place 7, and place 7
     * does not lead to place 3: taken from below, or without regard to what was taken, WEAK would be
     * another.
     */
    private static void weakIsFoundFromTheUpperRoundDown() {
        Guided g = new Guided(CHECK, 1, 0, 3);
        int[] late = {g.forge(1, 0, 0L, 0), g.forge(2, 7, 0L, 0), g.forge(3, 0b1011, 0L, 0)};
        g.begin();
        g.all((kind, from, to, v) -> v > 3 && g.placeOf(v) < 12);
        for (int node = 0; node < 3; node++) {
            CHECK.due("own round of " + node, 4, g.x.node(node, 0));
        }
        for (int v : late) {
            g.whisperToAll(3, v);
            g.all((kind, from, to, what) -> what <= 3);
        }
        CHECK.due("place 11 is added", 3, g.x.graph(0, 11));
        g.all((kind, from, to, v) -> g.placeOf(v) < 16);
        int v = g.model.message(0, 3);
        CHECK.due("a vertex of round 5", Play.place(5, 0), g.x.vertex(v, 0));
        CHECK.due("its STRONG", 7, g.x.vertex(v, 1));
        CHECK.due("its WEAK", 1L << 11 | 1L << 3, g.x.weak(v));
    }

    /** Place 3 is in the graph, and in no STRONG, when vertices of round 2 are made. */
    private static void roundsOneAndTwoHaveNoWeak() {
        Guided g = new Guided(CHECK, 1, 0, 3);
        int early = g.forge(1, 0, 0L, 0);
        g.whisperToAll(3, early);
        g.all((kind, from, to, v) -> true);
        g.begin();
        g.all((kind, from, to, v) -> g.placeOf(v) < 2);
        for (int v = 2; v <= 7; v++) {
            CHECK.due("WEAK of vertex " + v, 0, g.x.weak(v));
            CHECK.due("STRONG of vertex " + v, v <= 4 ? 0 : 0b1011, g.x.vertex(v, 1));
        }
        CHECK.due("places of vertices 5 to 7", "4 5 6",
                g.x.vertex(5, 0) + " " + g.x.vertex(6, 0) + " " + g.x.vertex(7, 0));
    }

    private static void noThirteenthRound() {
        for (int faulty = -1; faulty < 4; faulty++) {
            WaveLedger x = new WaveLedger(19, 0, faulty);
            x.begin();
            Play.settle(x);
            int nodes = faulty < 0 ? 4 : 3;
            CHECK.due("faulty " + faulty + ": the last vertex is of round 12", 11, x.vertex(12 * nodes, 0) / 4);
            CHECK.due("faulty " + faulty + ": none after it", -1, x.vertex(12 * nodes + 1, 0));
            CHECK.due("faulty " + faulty + ": nothing waits", 0, x.run(100));
        }
    }
}
