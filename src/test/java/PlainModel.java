import java.util.ArrayList;
import java.util.Arrays;
import java.util.HashMap;
import java.util.HashSet;
import java.util.List;
import java.util.Map;
import java.util.Set;
import java.util.TreeMap;
import java.util.TreeSet;

/**
 * The document once more, by its words and with the library's collections, without regard to speed
 * or room: what WaveLedger answers is held against it.
 */
final class PlainModel {
    /** How often each of the rarer things happened, so that a test can see that it met them. */
    final Map<String, Integer> met = new TreeMap<>();

    private record Vertex(int round, int source, Set<Integer> strong, Set<Integer> weak, int transfer) {
        int place() {
            return 4 * (round - 1) + source;
        }

        boolean right() {
            if (round == 1) {
                return strong.isEmpty() && weak.isEmpty();
            }
            return strong.size() >= 3 && weak.stream().allMatch(p -> p / 4 + 1 <= round - 2);
        }

        List<Integer> strongPlaces() {
            return strong.stream().map(node -> 4 * (round - 2) + node).toList();
        }
    }

    private record Message(int kind, int from, int to, int vertex) {
    }

    private static final class Member {
        final List<Integer> transfers = new ArrayList<>();
        final Set<Integer> sendsSeen = new HashSet<>();
        final Map<List<Integer>, Integer> notedAt = new HashMap<>();
        final Set<Integer> readySent = new HashSet<>();
        final TreeMap<Integer, Integer> accepted = new TreeMap<>();
        final TreeMap<Integer, Integer> graph = new TreeMap<>();
        final List<Integer> ordered = new ArrayList<>();
        final int[] balances = {100, 100, 100, 100};
        final Set<Integer> wavesDone = new HashSet<>();
        int ownRound;
        int committed;
        boolean begun;
    }

    private final List<Vertex> vertices = new ArrayList<>();
    private final List<Message> messages = new ArrayList<>();
    private final Member[] members = {new Member(), new Member(), new Member(), new Member()};
    private final int coins;
    private final int faulty;
    private long s;
    private int forged;

    PlainModel(int seed, int coins, int faulty) {
        this.s = seed;
        this.coins = coins;
        this.faulty = faulty >= 0 && faulty <= 3 ? faulty : -1;
    }

    private void meet(String what) {
        met.merge(what, 1, Integer::sum);
    }

    private static void argument(boolean right) {
        if (!right) {
            throw new IllegalArgumentException();
        }
    }

    private static void state(boolean right) {
        if (!right) {
            throw new IllegalStateException();
        }
    }

    private static boolean among(int x, int low, int high) {
        return low <= x && x <= high;
    }

    private static Set<Integer> bits(long set) {
        Set<Integer> all = new TreeSet<>();
        for (int i = 0; i < 64; i++) {
            if ((set >>> i & 1) == 1) {
                all.add(i);
            }
        }
        return all;
    }

    private static long set(Iterable<Integer> bits) {
        long set = 0;
        for (int bit : bits) {
            set |= 1L << bit;
        }
        return set;
    }

    int transfer(int node, int from, int to, int amount) {
        argument(among(node, 0, 3) && node != faulty);
        argument(among(from, 0, 3) && among(to, 0, 3) && among(amount, 1, 99));
        state(members[node].transfers.size() < 12);
        members[node].transfers.add(1000 * amount + 10 * from + to);
        return members[node].transfers.size();
    }

    boolean begin() {
        boolean had = Arrays.stream(members).anyMatch(member -> member.begun);
        for (int node = 0; node < 4 && !had; node++) {
            if (node != faulty) {
                members[node].begun = true;
                goOn(node);
            }
        }
        return !had;
    }

    int run(int n) {
        argument(among(n, 0, 100));
        for (int i = 0; i < n; i++) {
            if (!messages.isEmpty()) {
                s = (int) (s * 1103515245L + 12345L);
                deliver((int) ((s & 0xffffffffL) / 65536L % messages.size()));
            }
        }
        return messages.size();
    }

    boolean deliver(int k) {
        if (!among(k, 0, messages.size() - 1)) {
            return false;
        }
        Message message = messages.remove(k);
        comes(message);
        if (members[message.to].begun) {
            goOn(message.to);
        }
        return true;
    }

    int forge(int round, int strong, long weak, int transfer) {
        argument(among(round, 1, 12) && among(strong, 0, 15) && (weak >>> 48) == 0);
        argument(transfer == 0 || isTransfer(transfer));
        state(faulty != -1 && forged < 24);
        forged++;
        vertices.add(new Vertex(round, faulty, bits(strong), bits(weak), transfer));
        return vertices.size();
    }

    private static boolean isTransfer(int written) {
        for (int amount = 1; amount <= 99; amount++) {
            for (int accounts = 0; accounts < 16; accounts++) {
                if (written == 1000 * amount + 10 * (accounts / 4) + accounts % 4) {
                    return true;
                }
            }
        }
        return false;
    }

    int whisper(int kind, int node, int vertex) {
        argument(among(kind, 0, 2) && among(node, 0, 3) && node != faulty);
        argument(among(vertex, 1, vertices.size()));
        state(faulty != -1);
        messages.add(new Message(kind, faulty, node, vertex));
        return messages.size();
    }

    int message(int k, int what) {
        if (!among(k, 0, messages.size() - 1) || !among(what, 0, 3)) {
            return -1;
        }
        Message m = messages.get(k);
        return List.of(m.kind, m.from, m.to, m.vertex).get(what);
    }

    int vertex(int v, int what) {
        if (!among(v, 1, vertices.size()) || !among(what, 0, 2)) {
            return -1;
        }
        Vertex x = vertices.get(v - 1);
        return List.of(x.place(), (int) set(x.strong), x.transfer).get(what);
    }

    long weak(int v) {
        return among(v, 1, vertices.size()) ? set(vertices.get(v - 1).weak) : -1;
    }

    int node(int node, int what) {
        if (!among(node, 0, 3) || !among(what, 0, 7)) {
            return -1;
        }
        Member m = members[node];
        if (node == faulty) {
            return 0;
        }
        return what >= 4 ? m.balances[what - 4]
                : List.of(m.ownRound, m.committed, m.ordered.size(), m.graph.size()).get(what);
    }

    int graph(int node, int place) {
        if (!among(node, 0, 3)) {
            return 0;
        }
        int accepted = members[node].accepted.getOrDefault(place, 0);
        return members[node].graph.getOrDefault(place, -accepted);
    }

    int ordered(int node, int k) {
        boolean there = among(node, 0, 3) && among(k, 0, members[node].ordered.size() - 1);
        return there ? members[node].ordered.get(k) : -1;
    }

    private void broadcast(int kind, int from, int vertex) {
        for (int to = 0; to < 4; to++) {
            if (to != faulty) {
                messages.add(new Message(kind, from, to, vertex));
            }
        }
    }

    private void comes(Message m) {
        Member member = members[m.to];
        Vertex vertex = vertices.get(m.vertex - 1);
        int place = vertex.place();
        if (m.kind == 0) {
            if (m.from != vertex.source) {
                meet("SEND not of the source");
            } else if (!member.sendsSeen.add(place)) {
                meet("SEND not the first");
            } else {
                broadcast(1, m.to, m.vertex);
            }
            return;
        }
        int before = member.notedAt.getOrDefault(List.of(m.kind, place, m.from), 0);
        if (before != 0) {
            meet(before == m.vertex ? "noted again" : "noted for another vertex");
        }
        member.notedAt.putIfAbsent(List.of(m.kind, place, m.from), m.vertex);
        int noted = 0;
        for (int from = 0; from < 4; from++) {
            noted += member.notedAt.getOrDefault(List.of(m.kind, place, from), 0) == m.vertex ? 1 : 0;
        }
        boolean fromEchoes = m.kind == 1 && noted >= 3;
        boolean fromReadies = m.kind == 2 && noted >= 2;
        if ((fromEchoes || fromReadies) && member.readySent.add(place)) {
            meet(fromEchoes ? "READY by ECHOs" : "READY by READYs");
            broadcast(2, m.to, m.vertex);
        }
        if (m.kind == 2 && noted >= 3 && member.accepted.putIfAbsent(place, m.vertex) == null) {
            accepted(member);
        }
    }

    private void accepted(Member member) {
        boolean again = true;
        for (int added = 0; again; added++) {
            again = false;
            if (added == 2) {
                meet("one acceptance added two or more");
            }
            for (int place : member.accepted.keySet()) {
                Vertex vertex = vertices.get(member.accepted.get(place) - 1);
                if (!member.graph.containsKey(place) && vertex.right() && mayBeAdded(member, vertex)) {
                    member.graph.put(place, member.accepted.get(place));
                    again = true;
                    break;
                }
            }
        }
    }

    private static boolean mayBeAdded(Member member, Vertex vertex) {
        return member.graph.keySet().containsAll(vertex.strongPlaces())
                && member.graph.keySet().containsAll(vertex.weak);
    }

    /** All places to which a path leads from these, and themselves, one step after another. */
    private Set<Integer> reached(Member member, Set<Integer> from, boolean strongAlone) {
        Set<Integer> reached = new TreeSet<>(from);
        List<Integer> open = new ArrayList<>(from);
        while (!open.isEmpty()) {
            Vertex vertex = vertices.get(member.graph.get(open.remove(0)) - 1);
            Set<Integer> next = new TreeSet<>(vertex.strongPlaces());
            if (!strongAlone) {
                next.addAll(vertex.weak);
            }
            for (int place : next) {
                if (reached.add(place)) {
                    open.add(place);
                }
            }
        }
        return reached;
    }

    private static long placesOf(Member member, int round) {
        return member.graph.keySet().stream().filter(place -> place / 4 + 1 == round).count();
    }

    private void goOn(int node) {
        Member member = members[node];
        while (member.ownRound < 12 && (member.ownRound == 0 || placesOf(member, member.ownRound) >= 3)) {
            if (member.ownRound == 4 || member.ownRound == 8) {
                done(member, member.ownRound / 4);
            }
            member.ownRound++;
            broadcast(0, node, makeVertex(member, node));
        }
        if (placesOf(member, 12) >= 3 && !member.wavesDone.contains(3)) {
            done(member, 3);
        }
    }

    private int makeVertex(Member member, int node) {
        int round = member.ownRound;
        Set<Integer> strong = new TreeSet<>();
        Set<Integer> strongPlaces = new TreeSet<>();
        for (int place : member.graph.keySet()) {
            if (place / 4 + 1 == round - 1) {
                strong.add(place % 4);
                strongPlaces.add(place);
            }
        }
        Set<Integer> weak = new TreeSet<>();
        for (int before = round - 2; before >= 1; before--) {
            for (int source = 0; source < 4; source++) {
                int place = 4 * (before - 1) + source;
                Set<Integer> soFar = new TreeSet<>(strongPlaces);
                soFar.addAll(weak);
                if (member.graph.containsKey(place) && !reached(member, soFar, false).contains(place)) {
                    weak.add(place);
                }
            }
        }
        meet(strong.size() == 4 ? "STRONG of four" : "STRONG of three or none");
        if (weak.size() >= 1) {
            meet(weak.size() == 1 ? "WEAK of one" : "WEAK of two or more");
        }
        int transfer = member.transfers.isEmpty() ? 0 : member.transfers.remove(0);
        vertices.add(new Vertex(round, node, strong, weak, transfer));
        return vertices.size();
    }

    private int leader(int wave) {
        int source = List.of(coins & 3, coins >> 2 & 3, coins >> 4 & 3).get(wave - 1);
        return 16 * (wave - 1) + source;
    }

    private boolean strongPath(Member member, int from, int to) {
        return from != to && reached(member, Set.of(from), true).contains(to);
    }

    private void done(Member member, int wave) {
        member.wavesDone.add(wave);
        int leader = leader(wave);
        if (!member.graph.containsKey(leader)) {
            meet("done without the leader");
            return;
        }
        int support = 0;
        for (int place = 16 * wave - 4; place < 16 * wave; place++) {
            support += member.graph.containsKey(place) && strongPath(member, place, leader) ? 1 : 0;
        }
        meet("done with support " + support);
        if (support < 3) {
            return;
        }
        List<Integer> list = new ArrayList<>(List.of(leader));
        for (int earlier = wave - 1; earlier > member.committed; earlier--) {
            if (!member.graph.containsKey(leader(earlier))) {
                meet("an earlier leader is not in the graph");
            } else if (strongPath(member, list.get(0), leader(earlier))) {
                meet("an earlier leader is on the list");
                list.add(0, leader(earlier));
            } else {
                meet("an earlier leader has no strong path");
            }
        }
        meet("a list of " + list.size());
        member.committed = wave;
        for (int first : list) {
            for (int place : reached(member, Set.of(first), false)) {
                if (!member.ordered.contains(place)) {
                    order(member, place);
                }
            }
        }
    }

    private void order(Member member, int place) {
        member.ordered.add(place);
        int transfer = vertices.get(member.graph.get(place) - 1).transfer;
        int from = transfer / 10 % 10;
        int to = transfer % 10;
        int amount = transfer / 1000;
        if (transfer != 0) {
            meet(member.balances[from] < amount ? "transfer not made"
                    : member.balances[from] == amount ? "transfer of all" : "transfer made");
        }
        if (transfer != 0 && member.balances[from] >= amount) {
            member.balances[from] -= amount;
            member.balances[to] += amount;
        }
    }
}
