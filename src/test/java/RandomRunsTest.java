import java.util.ArrayList;
import java.util.List;
import java.util.Map;
import java.util.Random;
import java.util.TreeMap;
import java.util.function.Supplier;

/**
 * Promises 1 to 13: runs of mixed calls, held against PlainModel. Calls that change something are
 * kept, so that all questions can be put to fresh objects that were brought to the same state, and
 * no object is used for more calls than are promised.
 */
public final class RandomRunsTest {
    private static final Check CHECK = new Check("RandomRuns");
    private static final int RUNS = 900;
    private static final int CHANGES = 200;
    private static final int QUESTIONS_AN_OBJECT = 300;
    private static final String[] MUST_BE_MET = {
        "READY by ECHOs", "READY by READYs", "SEND not of the source", "SEND not the first",
        "STRONG of four", "WEAK of one", "WEAK of two or more", "noted again", "noted for another vertex",
        "one acceptance added two or more", "done without the leader", "done with support 0",
        "done with support 1", "done with support 2", "done with support 3",
        "an earlier leader is not in the graph", "an earlier leader is on the list",
        "an earlier leader has no strong path", "a list of 1", "a list of 2", "a list of 3",
        "transfer made", "transfer not made", "transfer of all",
    };

    /** Seeds and coins with which leaders come on the list after their wave, or WEAK has two places. */
    private static final int[][] RARE = {
        {1525, 4}, {7481, 42}, {7716, 7}, {22769, 9}, {31133, 60},
        {81, 53}, {144, 16}, {193, 37}, {357, 25}, {393, 13},
        {162, 0}, {319, 27}, {568, 3}, {583, 48},
        {25940, 9}, {13954, 13}, {50005, 0}, {250002, 32},
    };

    /** A call, or a question, as its kind and its arguments. */
    private record Call(int kind, int a, int b, long c, int d) {
        long of(WaveLedger x) {
            switch (kind) {
                case 0: return x.transfer(a, b, (int) c, d);
                case 1: return x.begin() ? 1 : 0;
                case 2: return x.run(a);
                case 3: return x.deliver(a) ? 1 : 0;
                case 4: return x.forge(a, b, c, d);
                case 5: return x.whisper(a, b, (int) c);
                case 6: return x.message(a, b);
                case 7: return x.vertex(a, b);
                case 8: return x.weak(a);
                case 9: return x.node(a, b);
                case 10: return x.graph(a, b);
                default: return x.ordered(a, b);
            }
        }

        long of(PlainModel x) {
            switch (kind) {
                case 0: return x.transfer(a, b, (int) c, d);
                case 1: return x.begin() ? 1 : 0;
                case 2: return x.run(a);
                case 3: return x.deliver(a) ? 1 : 0;
                case 4: return x.forge(a, b, c, d);
                case 5: return x.whisper(a, b, (int) c);
                case 6: return x.message(a, b);
                case 7: return x.vertex(a, b);
                case 8: return x.weak(a);
                case 9: return x.node(a, b);
                case 10: return x.graph(a, b);
                default: return x.ordered(a, b);
            }
        }
    }

    private static String answer(Check.Call call) {
        long[] got = new long[1];
        String thrown = Check.thrownBy(() -> got[0] = call.answer());
        return thrown.equals(Check.NOTHING) ? String.valueOf(got[0]) : "throws." + thrown;
    }

    public static void main(String[] args) {
        Map<String, Integer> met = new TreeMap<>();
        for (int run = 0; run < RUNS; run++) {
            play(run).met.forEach((what, times) -> met.merge(what, times, Integer::sum));
        }
        for (int[] rare : RARE) {
            playByRun(rare[0], rare[1]).met.forEach((what, times) -> met.merge(what, times, Integer::sum));
        }
        for (String what : MUST_BE_MET) {
            CHECK.due("the runs met: " + what, true, met.containsKey(what));
        }
        CHECK.end();
    }

    private static PlainModel play(int run) {
        Random random = new Random(run);
        int seed = random.nextInt();
        int coins = random.nextInt();
        int faulty = run % 3 == 0 ? -1 : random.nextInt(4);
        boolean coarse = random.nextBoolean();
        PlainModel model = new PlainModel(seed, coins, faulty);
        WaveLedger x = new WaveLedger(seed, coins, faulty);
        List<Call> calls = new ArrayList<>();
        for (int i = 0; i < CHANGES; i++) {
            Call call = nextCall(random, model, i, faulty, coarse);
            calls.add(call);
            compare("run " + run + ", call " + i, call, model, x);
        }
        ask("run " + run, model, () -> replayed(new WaveLedger(seed, coins, faulty), calls));
        return model;
    }

    private static PlainModel playByRun(int seed, int coins) {
        PlainModel model = new PlainModel(seed, coins, -1);
        List<Call> calls = new ArrayList<>();
        for (int i = 0; i < 48; i++) {
            calls.add(new Call(0, i % 4, i % 3, (i + 1) % 4, 1 + 17 * i % 99));
        }
        calls.add(new Call(1, 0, 0, 0, 0));
        WaveLedger x = new WaveLedger(seed, coins, -1);
        for (Call call : calls) {
            compare("seed " + seed, call, model, x);
        }
        for (int i = 0; i < 18; i++) {
            Call call = new Call(2, 100, 0, 0, 0);
            calls.add(call);
            compare("seed " + seed + ", " + i, call, model, x);
            ask("seed " + seed + ", " + i, model, () -> replayed(new WaveLedger(seed, coins, -1), calls));
        }
        return model;
    }

    private static void compare(String where, Call call, PlainModel model, WaveLedger x) {
        CHECK.due(where + ": " + call, answer(() -> call.of(model)), answer(() -> call.of(x)));
    }

    private static WaveLedger replayed(WaveLedger x, List<Call> calls) {
        for (Call call : calls) {
            answer(() -> call.of(x));
        }
        return x;
    }

    private static void ask(String where, PlainModel model, Supplier<WaveLedger> fresh) {
        List<Call> questions = questions(model);
        WaveLedger x = null;
        for (int i = 0; i < questions.size(); i++) {
            if (i % QUESTIONS_AN_OBJECT == 0) {
                x = fresh.get();
            }
            Call question = questions.get(i);
            CHECK.due(where + ": " + question, question.of(model), question.of(x));
        }
    }

    private static Call nextCall(Random random, PlainModel model, int i, int faulty, boolean coarse) {
        int dice = random.nextInt(100);
        if (i > 3 && dice < 8 || i == 20) {
            return new Call(1, 0, 0, 0, 0);
        }
        if (dice < 25) {
            return new Call(0, random.nextInt(20) == 0 ? random.nextInt(8) - 2 : random.nextInt(4),
                    random.nextInt(4), random.nextInt(4), 1 + random.nextInt(random.nextInt(9) == 0 ? 102 : 99));
        }
        if (dice < 45 && faulty >= 0) {
            return forging(random, model, faulty);
        }
        if (dice < 65 && faulty >= 0) {
            return whispering(random, model);
        }
        if (dice < 72) {
            int waiting = model.run(0);
            return new Call(3, random.nextInt(waiting + 3) - 1, 0, 0, 0);
        }
        return new Call(2, random.nextInt(coarse ? 103 : 12) - 1, 0, 0, 0);
    }

    private static int vertices(PlainModel model) {
        int count = 0;
        while (model.vertex(count + 1, 0) != -1) {
            count++;
        }
        return count;
    }

    /** Mostly such as a node that has seen what another has seen could make. */
    private static Call forging(Random random, PlainModel model, int faulty) {
        int seen = (faulty + 1 + random.nextInt(3)) % 4;
        int round = Math.max(1, Math.min(12, model.node(seen, 0) + 1 - random.nextInt(3)));
        int strong = 0;
        long weak = 0;
        for (int source = 0; source < 4; source++) {
            strong |= round > 1 && model.graph(seen, 4 * (round - 2) + source) > 0 ? 1 << source : 0;
        }
        for (int place = 0; place < 4 * (round - 2); place++) {
            weak |= random.nextInt(9) == 0 && model.graph(seen, place) > 0 ? 1L << place : 0L;
        }
        int transfer = random.nextInt(3) == 0 ? 0
                : 1000 * (1 + random.nextInt(99)) + 10 * random.nextInt(4) + random.nextInt(4);
        switch (random.nextInt(12)) {
            case 0:
                return new Call(4, random.nextInt(15) - 1, random.nextInt(18) - 1, random.nextLong() >>> 16, transfer);
            case 1:
                return new Call(4, round, strong, weak | 1L << random.nextInt(50), transfer);
            case 2:
                return new Call(4, round, strong, weak, random.nextInt(200000) - 50000);
            default:
                return new Call(4, round, strong, weak, transfer);
        }
    }

    private static Call whispering(Random random, PlainModel model) {
        int made = vertices(model);
        int vertex = made == 0 ? 1 : 1 + random.nextInt(made);
        // Forged ones are mostly the latest: those have most to come.
        for (int v = made; v > 0 && random.nextInt(4) != 0; v--) {
            vertex = v;
        }
        if (random.nextInt(15) == 0) {
            return new Call(5, random.nextInt(5) - 1, random.nextInt(6) - 1, random.nextInt(made + 3) - 1, 0);
        }
        return new Call(5, random.nextInt(3), random.nextInt(4), vertex, 0);
    }

    private static List<Call> questions(PlainModel model) {
        List<Call> questions = new ArrayList<>();
        int waiting = model.run(0);
        for (int what = -1; what <= 4; what++) {
            for (int k = -1; k <= waiting; k++) {
                questions.add(new Call(6, k, what, 0, 0));
            }
            for (int v = -1; v <= vertices(model) + 1; v++) {
                questions.add(new Call(7, v, what, 0, 0));
            }
        }
        for (int v = -1; v <= vertices(model) + 1; v++) {
            questions.add(new Call(8, v, 0, 0, 0));
        }
        for (int node = -1; node <= 4; node++) {
            for (int what = -1; what <= 8; what++) {
                questions.add(new Call(9, node, what, 0, 0));
            }
            for (int place = -1; place <= 48; place++) {
                questions.add(new Call(10, node, place, 0, 0));
                questions.add(new Call(11, node, place, 0, 0));
            }
        }
        return questions;
    }
}
