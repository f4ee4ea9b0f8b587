/**
 * Some nodes that keep one log of commands together, over a net that loses, copies and reorders.
 *
 * <p>All objects are made in the constructor and used again, so that no call makes any.
 */
public final class QuorumLog {
    public static final int BAD = -1;
    public static final int DOWN = -2;
    public static final int ROLE = -3;
    public static final int FULL = -4;
    public static final int EMPTY = -5;

    private static final int FOLLOWER = 0;
    private static final int CANDIDATE = 1;
    private static final int LEADER = 2;

    private static final int ASK = 1;
    private static final int VOTE = 2;
    private static final int APPEND = 3;
    private static final int APPENDED = 4;
    private static final int SNAPSHOT = 5;

    private static final int NOBODY = -1;

    private final Node[] nodes;
    private final Net net;
    private final Message draft;
    private final Message arrived;

    public QuorumLog(int nodes, int cap, int slots) {
        int size = within(nodes, 3, 5);
        int room = within(cap, 1, 12);
        this.nodes = new Node[size];
        for (int i = 0; i < size; i++) {
            this.nodes[i] = new Node(i, size, room);
        }
        this.net = new Net(within(slots, 8, 40));
        this.draft = new Message();
        this.arrived = new Message();
    }

    public int timeout(int node) {
        if (!isNode(node)) {
            return BAD;
        }
        Node n = nodes[node];
        if (!n.up) {
            return DOWN;
        }
        if (n.role == LEADER) {
            return ROLE;
        }
        if (net.countFree() < nodes.length - 1) {
            return FULL;
        }
        n.stand();
        for (int other = 0; other < nodes.length; other++) {
            if (other != node) {
                sendAsk(n, other);
            }
        }
        return 0;
    }

    public int heartbeat(int leader, int peer) {
        if (!areTwoNodes(leader, peer)) {
            return BAD;
        }
        Node n = nodes[leader];
        if (!n.up) {
            return DOWN;
        }
        if (n.role != LEADER) {
            return ROLE;
        }
        if (net.countFree() == 0) {
            return FULL;
        }
        if (n.next[peer] <= n.log.base) {
            sendSnapshot(n, peer);
            return SNAPSHOT;
        }
        sendAppend(n, peer);
        return APPEND;
    }

    public int propose(int node, int command) {
        if (!isNode(node)) {
            return BAD;
        }
        Node n = nodes[node];
        if (!n.up) {
            return DOWN;
        }
        if (n.role != LEADER) {
            return ROLE;
        }
        if (n.log.isFull()) {
            return FULL;
        }
        n.log.add(n.term, command);
        return n.log.lastNumber();
    }

    public int compact(int node) {
        if (!isNode(node)) {
            return BAD;
        }
        Node n = nodes[node];
        if (!n.up) {
            return DOWN;
        }
        int before = n.log.base;
        n.log.rebase(n.commit, n.log.termOf(n.commit), n.log.stateUpTo(n.commit));
        return n.log.base - before;
    }

    public int deliver(int slot) {
        if (!net.isSlot(slot)) {
            return BAD;
        }
        if (net.isFree(slot)) {
            return EMPTY;
        }
        // A copy, because the answer may take the very slot that becomes free here.
        arrived.copy(net.messages[slot]);
        net.clear(slot);
        Node receiver = nodes[arrived.to];
        if (receiver.up) {
            receive(receiver, arrived);
        }
        return arrived.kind;
    }

    public int drop(int slot) {
        if (!net.isSlot(slot)) {
            return BAD;
        }
        if (net.isFree(slot)) {
            return EMPTY;
        }
        net.clear(slot);
        return 0;
    }

    public int duplicate(int slot) {
        if (!net.isSlot(slot)) {
            return BAD;
        }
        if (net.isFree(slot)) {
            return EMPTY;
        }
        return net.put(net.messages[slot]);
    }

    public int crash(int node) {
        if (!isNode(node)) {
            return BAD;
        }
        Node n = nodes[node];
        if (!n.up) {
            return DOWN;
        }
        n.up = false;
        n.role = FOLLOWER;
        return 0;
    }

    public int restart(int node) {
        if (!isNode(node)) {
            return BAD;
        }
        Node n = nodes[node];
        if (n.up) {
            return DOWN;
        }
        n.up = true;
        n.role = FOLLOWER;
        n.commit = n.log.base;
        return 0;
    }

    public int role(int node) {
        if (!isNode(node)) {
            return BAD;
        }
        Node n = nodes[node];
        return n.up ? n.role + 4 : n.role;
    }

    public int term(int node) {
        return isNode(node) ? nodes[node].term : BAD;
    }

    public int vote(int node) {
        if (!isNode(node) || nodes[node].vote == NOBODY) {
            return BAD;
        }
        return nodes[node].vote;
    }

    public int base(int node) {
        return isNode(node) ? nodes[node].log.base : BAD;
    }

    public int last(int node) {
        return isNode(node) ? nodes[node].log.lastNumber() : BAD;
    }

    public int commit(int node) {
        return isNode(node) ? nodes[node].commit : BAD;
    }

    public int termAt(int node, int i) {
        return isNode(node) ? nodes[node].log.termOf(i) : BAD;
    }

    public int commandAt(int node, int i) {
        return isNode(node) ? nodes[node].log.commandOf(i) : 0;
    }

    public int state(int node) {
        return isNode(node) ? nodes[node].log.stateUpTo(nodes[node].commit) : 0;
    }

    public int peer(int leader, int peer) {
        if (!areTwoNodes(leader, peer) || nodes[leader].role != LEADER) {
            return BAD;
        }
        return nodes[leader].match[peer] + 100000 * nodes[leader].next[peer];
    }

    public int pending() {
        return net.waiting;
    }

    public int slot(int slot) {
        if (!net.isSlot(slot)) {
            return BAD;
        }
        if (net.isFree(slot)) {
            return 0;
        }
        Message m = net.messages[slot];
        return m.kind + 8 * m.from + 64 * m.to + 512 * m.term;
    }

    private static int within(int value, int least, int most) {
        return Math.max(least, Math.min(most, value));
    }

    private boolean isNode(int node) {
        return node >= 0 && node < nodes.length;
    }

    private boolean areTwoNodes(int one, int other) {
        return isNode(one) && isNode(other) && one != other;
    }

    private boolean isMajority(int count) {
        return 2 * count > nodes.length;
    }

    private void sendAsk(Node n, int to) {
        draft.begin(ASK, n.self, to, n.term);
        draft.number = n.log.lastNumber();
        draft.numberTerm = n.log.lastTerm();
        net.put(draft);
    }

    private void sendVote(Node n, int to, boolean grants) {
        draft.begin(VOTE, n.self, to, n.term);
        draft.yes = grants;
        net.put(draft);
    }

    private void sendAppend(Node n, int to) {
        int next = n.next[to];
        draft.begin(APPEND, n.self, to, n.term);
        draft.number = next - 1;
        draft.numberTerm = n.log.termOf(next - 1);
        draft.hasEntry = n.log.hasEntry(next);
        if (draft.hasEntry) {
            draft.entryTerm = n.log.termOf(next);
            draft.entryCommand = n.log.commandOf(next);
        }
        draft.commit = n.commit;
        net.put(draft);
    }

    private void sendAppended(Node n, int to, boolean yes, int number) {
        draft.begin(APPENDED, n.self, to, n.term);
        draft.yes = yes;
        draft.number = number;
        net.put(draft);
    }

    private void sendSnapshot(Node n, int to) {
        draft.begin(SNAPSHOT, n.self, to, n.term);
        draft.number = n.log.base;
        draft.numberTerm = n.log.baseTerm;
        draft.state = n.log.baseState;
        net.put(draft);
    }

    private void receive(Node n, Message m) {
        if (m.term > n.term) {
            n.enterTerm(m.term);
        }
        switch (m.kind) {
            case ASK:
                receiveAsk(n, m);
                break;
            case VOTE:
                receiveVote(n, m);
                break;
            case APPEND:
                receiveAppend(n, m);
                break;
            case APPENDED:
                receiveAppended(n, m);
                break;
            default:
                receiveSnapshot(n, m);
                break;
        }
    }

    private void receiveAsk(Node n, Message m) {
        boolean isFree = n.vote == NOBODY || n.vote == m.from;
        boolean grants = m.term == n.term && isFree && n.log.isNotAheadOf(m.number, m.numberTerm);
        if (grants) {
            n.vote = m.from;
        }
        sendVote(n, m.from, grants);
    }

    private void receiveVote(Node n, Message m) {
        if (n.role != CANDIDATE || m.term != n.term || !m.yes) {
            return;
        }
        n.voters[m.from] = true;
        if (isMajority(n.countVoters())) {
            n.lead();
        }
    }

    private void receiveAppend(Node n, Message m) {
        if (m.term < n.term) {
            sendAppended(n, m.from, false, 0);
            return;
        }
        n.role = FOLLOWER;
        if (m.number < n.log.base) {
            sendAppended(n, m.from, true, n.log.base);
            return;
        }
        if (m.number > n.log.lastNumber() || n.log.termOf(m.number) != m.numberTerm) {
            sendAppended(n, m.from, false, 0);
            return;
        }
        int has = m.number;
        if (m.hasEntry) {
            n.takeEntry(m.number + 1, m.entryTerm, m.entryCommand);
            // A full log may have left no room for the entry.
            if (n.log.hasEntry(m.number + 1)) {
                has = m.number + 1;
            }
        }
        n.commit = Math.max(n.commit, Math.min(m.commit, has));
        sendAppended(n, m.from, true, has);
    }

    private void receiveAppended(Node n, Message m) {
        if (n.role != LEADER || m.term != n.term) {
            return;
        }
        if (!m.yes) {
            n.next[m.from] = Math.max(1, n.next[m.from] - 1);
            return;
        }
        n.match[m.from] = Math.max(n.match[m.from], m.number);
        n.next[m.from] = n.match[m.from] + 1;
        advanceCommit(n);
    }

    private void receiveSnapshot(Node n, Message m) {
        if (m.term < n.term) {
            sendAppended(n, m.from, false, 0);
            return;
        }
        n.role = FOLLOWER;
        if (m.number <= n.commit) {
            sendAppended(n, m.from, true, n.commit);
            return;
        }
        if (n.log.termOf(m.number) != m.numberTerm) {
            n.log.cutFrom(n.log.base + 1);
        }
        n.log.rebase(m.number, m.numberTerm, m.state);
        n.commit = m.number;
        sendAppended(n, m.from, true, m.number);
    }

    /** Entries of older terms are not counted: they are committed with one of the leader's own. */
    private void advanceCommit(Node n) {
        for (int i = n.log.lastNumber(); i > n.commit; i--) {
            if (n.log.termOf(i) == n.term && isMajority(n.countHolders(i))) {
                n.commit = i;
                return;
            }
        }
    }

    /** Entries behind a base; entry number i stands at the index i - base - 1. */
    private static final class Log {
        private int base;
        private int baseTerm;
        private int baseState;
        private int count;
        private final int[] terms;
        private final int[] commands;

        private Log(int room) {
            this.terms = new int[room];
            this.commands = new int[room];
        }

        private int lastNumber() {
            return base + count;
        }

        private int lastTerm() {
            return count > 0 ? terms[count - 1] : baseTerm;
        }

        private boolean isFull() {
            return count >= terms.length;
        }

        private boolean hasEntry(int i) {
            return i > base && i <= base + count;
        }

        private int termOf(int i) {
            if (hasEntry(i)) {
                return terms[i - base - 1];
            }
            return i == base ? baseTerm : BAD;
        }

        private int commandOf(int i) {
            return hasEntry(i) ? commands[i - base - 1] : 0;
        }

        private int stateUpTo(int i) {
            int state = baseState;
            for (int k = 0; k < count && base + k < i; k++) {
                state = 31 * state + commands[k];
            }
            return state;
        }

        private boolean isNotAheadOf(int number, int term) {
            return term > lastTerm() || (term == lastTerm() && number >= lastNumber());
        }

        private void add(int term, int command) {
            if (!isFull()) {
                terms[count] = term;
                commands[count] = command;
                count++;
            }
        }

        private void cutFrom(int i) {
            if (hasEntry(i)) {
                count = i - base - 1;
            }
        }

        /** The entries up to the new base go; those behind it stay. */
        private void rebase(int newBase, int term, int state) {
            int gone = Math.min(count, Math.max(0, newBase - base));
            for (int k = gone; k < count; k++) {
                terms[k - gone] = terms[k];
                commands[k - gone] = commands[k];
            }
            count -= gone;
            base = newBase;
            baseTerm = term;
            baseState = state;
        }
    }

    /** Voters count only while it is a candidate, next and match only while it is leader. */
    private static final class Node {
        private final int self;
        private boolean up = true;
        private int role = FOLLOWER;
        private int term;
        private int vote = NOBODY;
        private int commit;
        private final Log log;
        private final boolean[] voters;
        private final int[] next;
        private final int[] match;

        private Node(int self, int size, int room) {
            this.self = self;
            this.log = new Log(room);
            this.voters = new boolean[size];
            this.next = new int[size];
            this.match = new int[size];
        }

        private void enterTerm(int newTerm) {
            term = newTerm;
            role = FOLLOWER;
            vote = NOBODY;
        }

        private void stand() {
            enterTerm(term + 1);
            role = CANDIDATE;
            vote = self;
            for (int i = 0; i < voters.length; i++) {
                voters[i] = i == self;
            }
        }

        private void lead() {
            role = LEADER;
            for (int i = 0; i < next.length; i++) {
                next[i] = log.lastNumber() + 1;
                match[i] = 0;
            }
        }

        private void takeEntry(int i, int entryTerm, int command) {
            if (log.hasEntry(i) && log.termOf(i) != entryTerm) {
                log.cutFrom(i);
                commit = Math.min(commit, log.lastNumber());
            }
            if (!log.hasEntry(i)) {
                log.add(entryTerm, command);
            }
        }

        private int countVoters() {
            int count = 0;
            for (int i = 0; i < voters.length; i++) {
                if (voters[i]) {
                    count++;
                }
            }
            return count;
        }

        private int countHolders(int number) {
            int count = 0;
            for (int i = 0; i < match.length; i++) {
                if (i == self || match[i] >= number) {
                    count++;
                }
            }
            return count;
        }
    }

    /** What the number means depends on the kind; kind 0 is no message. */
    private static final class Message {
        private int kind;
        private int from;
        private int to;
        private int term;
        private int number;
        private int numberTerm;
        private boolean yes;
        private boolean hasEntry;
        private int entryTerm;
        private int entryCommand;
        private int commit;
        private int state;

        /** The sender then writes all parts that the kind bears; the others are never read. */
        private void begin(int newKind, int sender, int receiver, int senderTerm) {
            kind = newKind;
            from = sender;
            to = receiver;
            term = senderTerm;
        }

        private void copy(Message other) {
            kind = other.kind;
            from = other.from;
            to = other.to;
            term = other.term;
            number = other.number;
            numberTerm = other.numberTerm;
            yes = other.yes;
            hasEntry = other.hasEntry;
            entryTerm = other.entryTerm;
            entryCommand = other.entryCommand;
            commit = other.commit;
            state = other.state;
        }
    }

    /** The slots in which messages wait. */
    private static final class Net {
        private final Message[] messages;
        private int waiting;

        private Net(int size) {
            this.messages = new Message[size];
            for (int i = 0; i < size; i++) {
                this.messages[i] = new Message();
            }
        }

        private boolean isSlot(int slot) {
            return slot >= 0 && slot < messages.length;
        }

        private boolean isFree(int slot) {
            return messages[slot].kind == 0;
        }

        private int countFree() {
            return messages.length - waiting;
        }

        private int put(Message m) {
            for (int slot = 0; slot < messages.length; slot++) {
                if (isFree(slot)) {
                    messages[slot].copy(m);
                    waiting++;
                    return slot;
                }
            }
            return FULL;
        }

        private void clear(int slot) {
            messages[slot].kind = 0;
            waiting--;
        }
    }
}
