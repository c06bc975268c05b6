/**
 * A ledger that four nodes keep without a leader and without clocks: each broadcasts a vertex a
 * round so that all who take it take the same, vertices point to those of earlier rounds, coins
 * choose the vertices from which the common order is read, and transfers are made in that order.
 *
 * <p>Sets of places are the bits of a long. Every row is made in a constructor: no call makes an
 * object.
 */
public final class WaveLedger {
    private static final int NODES = 4;
    private static final int ROUNDS = 12;
    private static final int WAVE_ROUNDS = 4;
    private static final int WAVES = ROUNDS / WAVE_ROUNDS;
    private static final int PLACES = NODES * ROUNDS;
    private static final int NONE = -1;

    private static final int ALL_NODES = (1 << NODES) - 1;
    private static final long ALL_PLACES = (1L << PLACES) - 1L;

    private static final int SEND = 0;
    private static final int ECHO = 1;
    private static final int READY = 2;

    /** Any two sets of three nodes share one that is not faulty. */
    private static final int QUORUM = 3;
    /** Of two nodes one at least is not faulty. */
    private static final int SUPPORT = 2;

    private static final int ACCOUNTS = 4;
    private static final int FIRST_BALANCE = 100;
    private static final int MAX_AMOUNT = 99;
    private static final int AMOUNT_UNIT = 1000;
    private static final int FROM_UNIT = 10;

    private static final int MAX_TRANSFERS_WAITING = 12;
    private static final int MAX_FORGED = 24;
    private static final int MAX_RUN = 100;
    private static final int MAX_VERTICES = PLACES + MAX_FORGED;

    private static final int MAX_CALLS = 512;
    /** A SEND for each place, an ECHO and a READY of each node for each place, and a whisper a call. */
    private static final int MAX_MESSAGES = NODES * PLACES * (1 + 2 * NODES) + MAX_CALLS;

    private static final int FIRST_BALANCE_QUESTION = 4;

    private final int faulty;
    private final Vertices vertices;
    private final Mail mail;
    private final Node[] nodes;
    private int drawn;
    private int forged;
    private boolean begun;

    public WaveLedger(int seed, int coins, int faulty) {
        int silent = isNode(faulty) ? faulty : NONE;
        Vertices all = new Vertices();
        Mail post = new Mail(silent);
        Node[] four = new Node[NODES];
        for (int i = 0; i < NODES; i++) {
            four[i] = new Node(i, coins, all, post);
        }
        this.faulty = silent;
        this.vertices = all;
        this.mail = post;
        this.nodes = four;
        this.drawn = seed;
    }

    public int transfer(int node, int from, int to, int amount)
            throws IllegalArgumentException, IllegalStateException {
        if (!isActive(node) || !isAccount(from) || !isAccount(to)) {
            throw new IllegalArgumentException("no such node or account");
        }
        if (amount < 1 || amount > MAX_AMOUNT) {
            throw new IllegalArgumentException("amount is not 1 .. 99");
        }
        TransferQueue queue = nodes[node].queue;
        if (queue.isFull()) {
            throw new IllegalStateException("12 transfers wait");
        }
        queue.append(AMOUNT_UNIT * amount + FROM_UNIT * from + to);
        return queue.count;
    }

    public boolean begin() {
        if (begun) {
            return false;
        }
        begun = true;
        for (int i = 0; i < NODES; i++) {
            if (isActive(i)) {
                nodes[i].goOn();
            }
        }
        return true;
    }

    public int run(int n) throws IllegalArgumentException {
        if (n < 0 || n > MAX_RUN) {
            throw new IllegalArgumentException("n is not 0 .. 100");
        }
        for (int i = 0; i < n && mail.count > 0; i++) {
            drawn = drawn * 1103515245 + 12345;
            arrive((drawn >>> 16) % mail.count);
        }
        return mail.count;
    }

    public boolean deliver(int k) {
        if (!mail.has(k)) {
            return false;
        }
        arrive(k);
        return true;
    }

    public int forge(int round, int strong, long weak, int transfer)
            throws IllegalArgumentException, IllegalStateException {
        if (round < 1 || round > ROUNDS || strong < 0 || strong > ALL_NODES) {
            throw new IllegalArgumentException("no such round or nodes");
        }
        if ((weak & ~ALL_PLACES) != 0L || !isTransferOrNone(transfer)) {
            throw new IllegalArgumentException("no such places or transfer");
        }
        if (faulty == NONE || forged >= MAX_FORGED) {
            throw new IllegalStateException("no node is faulty, or 24 were forged");
        }
        forged++;
        return vertices.make(numberOf(round, faulty), strong, weak, transfer);
    }

    public int whisper(int kind, int node, int vertex)
            throws IllegalArgumentException, IllegalStateException {
        if (kind < SEND || kind > READY || !isActive(node) || !vertices.has(vertex)) {
            throw new IllegalArgumentException("no such kind, node or vertex");
        }
        if (faulty == NONE) {
            throw new IllegalStateException("no node is faulty");
        }
        mail.send(kind, faulty, node, vertex);
        return mail.count;
    }

    public int message(int k, int what) {
        if (!mail.has(k)) {
            return -1;
        }
        int letter = mail.waiting[k];
        switch (what) {
            case 0:
                return Mail.kindOf(letter);
            case 1:
                return Mail.senderOf(letter);
            case 2:
                return Mail.receiverOf(letter);
            case 3:
                return Mail.subjectOf(letter);
            default:
                return -1;
        }
    }

    public int vertex(int v, int what) {
        if (!vertices.has(v)) {
            return -1;
        }
        switch (what) {
            case 0:
                return vertices.places[v];
            case 1:
                return vertices.strongNodes[v];
            case 2:
                return vertices.transfers[v];
            default:
                return -1;
        }
    }

    public long weak(int v) {
        return vertices.has(v) ? vertices.weakPlaces[v] : -1L;
    }

    public int node(int node, int what) {
        if (!isNode(node) || what < 0 || what >= FIRST_BALANCE_QUESTION + ACCOUNTS) {
            return -1;
        }
        // The faulty node keeps nothing, not even the balances that the others start from.
        if (node == faulty) {
            return 0;
        }
        Node asked = nodes[node];
        switch (what) {
            case 0:
                return asked.ownRound;
            case 1:
                return asked.committed;
            case 2:
                return asked.book.count;
            case 3:
                return Long.bitCount(asked.known.added);
            default:
                return asked.book.balances[what - FIRST_BALANCE_QUESTION];
        }
    }

    public int graph(int node, int place) {
        if (!isNode(node) || place < 0 || place >= PLACES) {
            return 0;
        }
        Graph asked = nodes[node].known;
        return asked.has(place) ? asked.accepted[place] : -asked.accepted[place];
    }

    public int ordered(int node, int k) {
        if (!isNode(node) || k < 0 || k >= nodes[node].book.count) {
            return -1;
        }
        return nodes[node].book.places[k];
    }

    /** The caller has seen that a message waits at k. */
    private void arrive(int k) {
        int letter = mail.take(k);
        int sender = Mail.senderOf(letter);
        int v = Mail.subjectOf(letter);
        Node receiver = nodes[Mail.receiverOf(letter)];
        switch (Mail.kindOf(letter)) {
            case SEND:
                receiver.receiveSend(sender, v);
                break;
            case ECHO:
                receiver.receiveEcho(sender, v);
                break;
            default:
                receiver.receiveReady(sender, v);
                break;
        }
        // Forged vertices may be whispered to nodes that have not begun.
        if (begun) {
            receiver.goOn();
        }
    }

    private boolean isActive(int node) {
        return isNode(node) && node != faulty;
    }

    private static boolean isNode(int node) {
        return node >= 0 && node < NODES;
    }

    private static boolean isAccount(int account) {
        return account >= 0 && account < ACCOUNTS;
    }

    private static boolean isTransferOrNone(int written) {
        if (written == 0) {
            return true;
        }
        int amount = written / AMOUNT_UNIT;
        return amount >= 1 && amount <= MAX_AMOUNT
                && isAccount(payerOf(written)) && isAccount(payeeOf(written));
    }

    private static int payerOf(int written) {
        return written % AMOUNT_UNIT / FROM_UNIT;
    }

    private static int payeeOf(int written) {
        return written % FROM_UNIT;
    }

    private static int numberOf(int round, int source) {
        return NODES * (round - 1) + source;
    }

    private static int roundOf(int place) {
        return place / NODES + 1;
    }

    private static long bitOf(int place) {
        return 1L << place;
    }

    private static boolean contains(long places, int place) {
        return (places >>> place & 1L) != 0L;
    }

    /** All vertices that were made, right or not; number 0 is none's. */
    private static final class Vertices {
        private final int[] places = new int[MAX_VERTICES + 1];
        private final int[] strongNodes = new int[MAX_VERTICES + 1];
        private final long[] weakPlaces = new long[MAX_VERTICES + 1];
        private final int[] transfers = new int[MAX_VERTICES + 1];
        private int made;

        /** There is room: each node makes one a round, and forge counts its own. */
        int make(int place, int strong, long weak, int transfer) {
            made++;
            places[made] = place;
            strongNodes[made] = strong;
            weakPlaces[made] = weak;
            transfers[made] = transfer;
            return made;
        }

        boolean has(int v) {
            return v >= 1 && v <= made;
        }

        int sourceOf(int v) {
            return places[v] % NODES;
        }

        boolean isRight(int v) {
            int round = roundOf(places[v]);
            if (round == 1) {
                return strongNodes[v] == 0 && weakPlaces[v] == 0L;
            }
            long twoOrMoreBefore = bitOf(numberOf(round - 1, 0)) - 1L;
            return Integer.bitCount(strongNodes[v]) >= QUORUM
                    && (weakPlaces[v] & ~twoOrMoreBefore) == 0L;
        }

        /** STRONG as places; the vertex is right, and so has none in round 1. */
        long strongPlacesOf(int v) {
            int round = roundOf(places[v]);
            return round == 1 ? 0L : (long) strongNodes[v] << numberOf(round - 1, 0);
        }
    }

    /** The messages that wait, each as one number, in the order in which they were sent. */
    private static final class Mail {
        private final int silent;
        private final int[] waiting = new int[MAX_MESSAGES];
        private int count;

        Mail(int silent) {
            this.silent = silent;
        }

        /** Full it can only be after more calls than are promised: then nothing is sent. */
        void send(int kind, int sender, int receiver, int v) {
            if (count < MAX_MESSAGES) {
                waiting[count] = v << 6 | receiver << 4 | sender << 2 | kind;
                count++;
            }
        }

        void broadcast(int kind, int sender, int v) {
            for (int receiver = 0; receiver < NODES; receiver++) {
                if (receiver != silent) {
                    send(kind, sender, receiver, v);
                }
            }
        }

        boolean has(int k) {
            return k >= 0 && k < count;
        }

        int take(int k) {
            int letter = waiting[k];
            count--;
            System.arraycopy(waiting, k + 1, waiting, k, count - k);
            return letter;
        }

        static int kindOf(int letter) {
            return letter & 3;
        }

        static int senderOf(int letter) {
            return letter >>> 2 & 3;
        }

        static int receiverOf(int letter) {
            return letter >>> 4 & 3;
        }

        static int subjectOf(int letter) {
            return letter >>> 6;
        }
    }

    /** The transfers that wait at a node, the first one at 0. */
    private static final class TransferQueue {
        private final int[] written = new int[MAX_TRANSFERS_WAITING];
        private int count;

        boolean isFull() {
            return count >= MAX_TRANSFERS_WAITING;
        }

        void append(int transfer) {
            written[count] = transfer;
            count++;
        }

        int takeFirstOrNone() {
            if (count == 0) {
                return 0;
            }
            int first = written[0];
            count--;
            System.arraycopy(written, 1, written, 0, count);
            return first;
        }
    }

    /** Which vertex each sender stood for, by ECHO or by READY, at each place. */
    private static final class Votes {
        private final int[] votes = new int[PLACES * NODES];

        /** How many are noted for v; 0 when the sender stood for another vertex before. */
        int note(int sender, int place, int v) {
            int first = NODES * place;
            if (votes[first + sender] == 0) {
                votes[first + sender] = v;
            }
            if (votes[first + sender] != v) {
                return 0;
            }
            int noted = 0;
            for (int i = 0; i < NODES; i++) {
                if (votes[first + i] == v) {
                    noted++;
                }
            }
            return noted;
        }
    }

    /** What a node accepted, and what of it was added, with all paths among the added places. */
    private static final class Graph {
        private final Vertices vertices;
        private final int[] accepted = new int[PLACES];
        private final long[] paths = new long[PLACES];
        private final long[] strongPaths = new long[PLACES];
        private long added;

        Graph(Vertices vertices) {
            this.vertices = vertices;
        }

        boolean has(int place) {
            return contains(added, place);
        }

        /** A right vertex points to lesser places alone, so one way upwards adds all that may be. */
        void accept(int v) {
            accepted[vertices.places[v]] = v;
            for (int place = 0; place < PLACES; place++) {
                if (accepted[place] != 0 && !has(place)) {
                    addIfAllowed(place);
                }
            }
        }

        private void addIfAllowed(int place) {
            int v = accepted[place];
            if (!vertices.isRight(v)) {
                return;
            }
            long strong = vertices.strongPlacesOf(v);
            long direct = strong | vertices.weakPlaces[v];
            if ((direct & ~added) == 0L) {
                paths[place] = follow(paths, direct);
                strongPaths[place] = follow(strongPaths, strong);
                added |= bitOf(place);
            }
        }

        /** These places and all that the rows lead to from them. */
        private static long follow(long[] rows, long direct) {
            long reached = direct;
            for (int place = 0; place < PLACES; place++) {
                if (contains(direct, place)) {
                    reached |= rows[place];
                }
            }
            return reached;
        }

        int nodesIn(int round) {
            return (int) (added >>> numberOf(round, 0)) & ALL_NODES;
        }

        boolean hasQuorumIn(int round) {
            return Integer.bitCount(nodesIn(round)) >= QUORUM;
        }

        boolean leadsStrongly(int from, int to) {
            return contains(strongPaths[from], to);
        }

        /** How many places of a round have a strong path to this one. */
        int supportFrom(int round, int to) {
            int support = 0;
            for (int source = 0; source < NODES; source++) {
                if (leadsStrongly(numberOf(round, source), to)) {
                    support++;
                }
            }
            return support;
        }

        /** WEAK of a vertex of this round whose STRONG are all places of the round before. */
        long weakPlacesFor(int round) {
            long strong = (long) nodesIn(round - 1) << numberOf(round - 1, 0);
            long reached = follow(paths, strong);
            long weak = 0L;
            for (int before = round - 2; before >= 1; before--) {
                for (int source = 0; source < NODES; source++) {
                    int place = numberOf(before, source);
                    if (has(place) && !contains(reached, place)) {
                        weak |= bitOf(place);
                        reached |= bitOf(place) | paths[place];
                    }
                }
            }
            return weak;
        }
    }

    /** The places that a node ordered, and the balances that their transfers leave. */
    private static final class Book {
        private final int[] places = new int[PLACES];
        private final int[] balances = new int[ACCOUNTS];
        private long entered;
        private int count;

        Book() {
            for (int i = 0; i < ACCOUNTS; i++) {
                balances[i] = FIRST_BALANCE;
            }
        }

        void enter(int place, int transfer) {
            places[count] = place;
            count++;
            entered |= bitOf(place);
            int amount = transfer / AMOUNT_UNIT;
            if (balances[payerOf(transfer)] >= amount) {
                balances[payerOf(transfer)] -= amount;
                balances[payeeOf(transfer)] += amount;
            }
        }
    }

    private static final class Node {
        private final int self;
        private final int coins;
        private final Vertices vertices;
        private final Mail mail;
        private final Graph known;
        private final Book book = new Book();
        private final TransferQueue queue = new TransferQueue();
        private final Votes echoes = new Votes();
        private final Votes readies = new Votes();
        private final int[] leaders = new int[WAVES];
        private long echoedPlaces;
        private long readyPlaces;
        private int ownRound;
        private int committed;
        private boolean lastWaveDone;

        Node(int self, int coins, Vertices vertices, Mail mail) {
            this.self = self;
            this.coins = coins;
            this.vertices = vertices;
            this.mail = mail;
            this.known = new Graph(vertices);
        }

        void receiveSend(int sender, int v) {
            int place = vertices.places[v];
            if (sender == vertices.sourceOf(v) && !contains(echoedPlaces, place)) {
                echoedPlaces |= bitOf(place);
                mail.broadcast(ECHO, self, v);
            }
        }

        void receiveEcho(int sender, int v) {
            int place = vertices.places[v];
            if (echoes.note(sender, place, v) >= QUORUM) {
                broadcastReadyOnce(place, v);
            }
        }

        void receiveReady(int sender, int v) {
            int place = vertices.places[v];
            int noted = readies.note(sender, place, v);
            if (noted >= SUPPORT) {
                broadcastReadyOnce(place, v);
            }
            if (noted >= QUORUM && known.accepted[place] == 0) {
                known.accept(v);
            }
        }

        private void broadcastReadyOnce(int place, int v) {
            if (!contains(readyPlaces, place)) {
                readyPlaces |= bitOf(place);
                mail.broadcast(READY, self, v);
            }
        }

        void goOn() {
            while (ownRound < ROUNDS && (ownRound == 0 || known.hasQuorumIn(ownRound))) {
                int wave = ownRound / WAVE_ROUNDS;
                if (wave > 0 && ownRound == WAVE_ROUNDS * wave && mayCommit(wave)) {
                    commit(wave);
                }
                ownRound++;
                broadcastOwnVertex();
            }
            if (!lastWaveDone && known.hasQuorumIn(ROUNDS)) {
                lastWaveDone = true;
                if (mayCommit(WAVES)) {
                    commit(WAVES);
                }
            }
        }

        private void broadcastOwnVertex() {
            int strong = ownRound == 1 ? 0 : known.nodesIn(ownRound - 1);
            long weak = ownRound == 1 ? 0L : known.weakPlacesFor(ownRound);
            int place = numberOf(ownRound, self);
            int v = vertices.make(place, strong, weak, queue.takeFirstOrNone());
            mail.broadcast(SEND, self, v);
        }

        private boolean mayCommit(int wave) {
            int leader = leaderOf(wave);
            return known.has(leader) && known.supportFrom(WAVE_ROUNDS * wave, leader) >= QUORUM;
        }

        private int leaderOf(int wave) {
            int source = coins >>> 2 * (wave - 1) & (NODES - 1);
            return numberOf(WAVE_ROUNDS * (wave - 1) + 1, source);
        }

        private void commit(int wave) {
            leaders[0] = leaderOf(wave);
            int listed = 1;
            for (int earlier = wave - 1; earlier > committed; earlier--) {
                int leader = leaderOf(earlier);
                if (known.leadsStrongly(leaders[listed - 1], leader)) {
                    leaders[listed] = leader;
                    listed++;
                }
            }
            committed = wave;
            for (int i = listed - 1; i >= 0; i--) {
                orderFrom(leaders[i]);
            }
        }

        private void orderFrom(int leader) {
            long due = (known.paths[leader] | bitOf(leader)) & ~book.entered;
            for (int place = 0; place < PLACES; place++) {
                if (contains(due, place)) {
                    book.enter(place, vertices.transfers[known.accepted[place]]);
                }
            }
        }
    }
}
