/** Terms: when a vertex is RIGHT, at each edge of it; only right ones come into a graph. */
public final class TermRightTest {
    private static final Check CHECK = new Check("TermRight");

    public static void main(String[] args) {
        roundOneHasEmptySets();
        strongHasThreeOrMore();
        weakHasPlacesTwoRoundsBeforeOrMore();
        whatIsNotRightHoldsOthersBack();
        CHECK.end();
    }

    /** All of the others' places are in the graphs; the faulty node's only below this round. */
    private static WaveLedger endedBelow(int round) {
        WaveLedger x = new WaveLedger(4, 0, 3);
        x.begin();
        Play.settle(x);
        for (int before = 1; before < round; before++) {
            Play.spread(x, 3, x.forge(before, before == 1 ? 0 : 7, 0L, 0));
        }
        return x;
    }

    private static void rightIs(boolean right, int round, int strong, long weak) {
        WaveLedger x = endedBelow(round);
        int before = x.node(0, 3);
        int v = x.forge(round, strong, weak, 0);
        Play.spread(x, 3, v);
        String what = "round " + round + ", strong " + strong + ", weak " + Long.toHexString(weak);
        CHECK.due(what, right ? v : -v, x.graph(0, Play.place(round, 3)));
        CHECK.due(what + ": places in the graph", right ? before + 1 : before, x.node(0, 3));
    }

    private static void roundOneHasEmptySets() {
        rightIs(true, 1, 0, 0L);
        for (int strong = 1; strong <= 15; strong++) {
            rightIs(false, 1, strong, 0L);
        }
        for (int place = 0; place < 48; place++) {
            rightIs(false, 1, 0, 1L << place);
        }
    }

    private static void strongHasThreeOrMore() {
        int[] rounds = {2, 3, 12};
        for (int round : rounds) {
            for (int strong = 0; strong <= 15; strong++) {
                boolean enough = strong == 7 || strong == 11 || strong == 13 || strong == 14 || strong == 15;
                rightIs(enough, round, strong, 0L);
            }
        }
    }

    /** The last place two rounds before is allowed, the first one a round before is not. */
    private static void weakHasPlacesTwoRoundsBeforeOrMore() {
        for (int round = 2; round <= 12; round++) {
            int allowed = 4 * (round - 2);
            for (int place = 0; place < 48; place++) {
                rightIs(place < allowed, round, 7, 1L << place);
            }
            rightIs(true, round, 7, (1L << allowed) - 1L);
            rightIs(false, round, 7, (2L << allowed) - 1L);
        }
    }

    private static void whatIsNotRightHoldsOthersBack() {
        WaveLedger x = new WaveLedger(4, 0, 3);
        x.begin();
        Play.settle(x);
        int wrong = x.forge(1, 0, 1L, 0);
        int byStrong = x.forge(2, 15, 0L, 0);
        int byWeak = x.forge(3, 7, 1L << 3, 0);
        Play.spread(x, 3, wrong);
        Play.spread(x, 3, byStrong);
        Play.spread(x, 3, byWeak);
        CHECK.due("not right", -wrong, x.graph(0, 3));
        CHECK.due("it is in STRONG", -byStrong, x.graph(0, 7));
        CHECK.due("it is in WEAK", -byWeak, x.graph(0, 11));
        CHECK.due("places in the graph", 36, x.node(0, 3));
    }
}
