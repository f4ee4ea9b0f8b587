import java.util.ArrayList;
import java.util.List;
import java.util.Map;
import java.util.Set;
import java.util.TreeMap;
import java.util.TreeSet;

/**
 * A second reading of the document, as near to its words as Java's library allows, and with nothing
 * taken from the class: the random runs compare the two.
 */
final class Model {
    private record Entry(int term, int command) {
    }

    private record Snapshot(int number, int term, int state) {
    }

    /** The parts that a kind does not use are 0, false or null. */
    private record Letter(int kind, int from, int to, int term, int number, int numberTerm, boolean yes,
            Entry entry, int commit, int state) {
    }

    private static final class Member {
        boolean up = true;
        int role = 0;
        int term = 0;
        Integer vote = null;
        Snapshot base = new Snapshot(0, 0, 0);
        final TreeMap<Integer, Entry> log = new TreeMap<>();
        int commit = 0;
        final Set<Integer> voters = new TreeSet<>();
        final Map<Integer, Integer> next = new TreeMap<>();
        final Map<Integer, Integer> match = new TreeMap<>();

        int last() {
            return log.isEmpty() ? base.number() : log.lastKey();
        }

        Integer termAt(int i) {
            if (i == base.number()) {
                return base.term();
            }
            return log.containsKey(i) ? log.get(i).term() : null;
        }

        int state(int i) {
            int state = base.state();
            for (Entry e : log.headMap(i, true).values()) {
                state = 31 * state + e.command();
            }
            return state;
        }
    }

    private final List<Member> members = new ArrayList<>();
    private final int cap;
    private final Letter[] slots;

    Model(int nodes, int cap, int slots) {
        int n = nodes < 3 ? 3 : nodes > 5 ? 5 : nodes;
        for (int i = 0; i < n; i++) {
            members.add(new Member());
        }
        this.cap = cap < 1 ? 1 : cap > 12 ? 12 : cap;
        this.slots = new Letter[slots < 8 ? 8 : slots > 40 ? 40 : slots];
    }

    private Member member(int node) {
        return node < 0 || node >= members.size() ? null : members.get(node);
    }

    private int send(Letter letter) {
        for (int i = 0; i < slots.length; i++) {
            if (slots[i] == null) {
                slots[i] = letter;
                return i;
            }
        }
        return -4;
    }

    int timeout(int node) {
        Member m = member(node);
        if (m == null) {
            return -1;
        }
        if (!m.up) {
            return -2;
        }
        if (m.role == 2) {
            return -3;
        }
        if (slots.length - pending() < members.size() - 1) {
            return -4;
        }
        m.role = 1;
        m.term++;
        m.vote = node;
        m.voters.clear();
        m.voters.add(node);
        for (int i = 0; i < members.size(); i++) {
            if (i != node) {
                send(new Letter(1, node, i, m.term, m.last(), m.termAt(m.last()), false, null, 0, 0));
            }
        }
        return 0;
    }

    int heartbeat(int leader, int peer) {
        Member m = member(leader);
        if (m == null || member(peer) == null || leader == peer) {
            return -1;
        }
        if (!m.up) {
            return -2;
        }
        if (m.role != 2) {
            return -3;
        }
        if (pending() == slots.length) {
            return -4;
        }
        int next = m.next.get(peer);
        if (next > m.base.number()) {
            send(new Letter(3, leader, peer, m.term, next - 1, m.termAt(next - 1), false, m.log.get(next), m.commit, 0));
            return 3;
        }
        Snapshot b = m.base;
        send(new Letter(5, leader, peer, m.term, b.number(), b.term(), false, null, 0, b.state()));
        return 5;
    }

    int propose(int node, int command) {
        Member m = member(node);
        if (m == null) {
            return -1;
        }
        if (!m.up) {
            return -2;
        }
        if (m.role != 2) {
            return -3;
        }
        if (m.log.size() == cap) {
            return -4;
        }
        int number = m.last() + 1;
        m.log.put(number, new Entry(m.term, command));
        return number;
    }

    int compact(int node) {
        Member m = member(node);
        if (m == null) {
            return -1;
        }
        if (!m.up) {
            return -2;
        }
        int size = m.log.size();
        m.base = new Snapshot(m.commit, m.termAt(m.commit), m.state(m.commit));
        m.log.headMap(m.commit, true).clear();
        return size - m.log.size();
    }

    int deliver(int slot) {
        if (slot < 0 || slot >= slots.length) {
            return -1;
        }
        Letter a = slots[slot];
        if (a == null) {
            return -5;
        }
        slots[slot] = null;
        Member m = members.get(a.to());
        if (!m.up) {
            return a.kind();
        }
        if (a.term() > m.term) {
            m.term = a.term();
            m.role = 0;
            m.vote = null;
        }
        if (a.kind() == 1) {
            ask(m, a);
        } else if (a.kind() == 2) {
            voted(m, a);
        } else if (a.kind() == 3) {
            append(m, a);
        } else if (a.kind() == 4) {
            appended(m, a);
        } else {
            snapshot(m, a);
        }
        return a.kind();
    }

    private void ask(Member m, Letter a) {
        int own = m.termAt(m.last());
        boolean behind = a.numberTerm() < own || (a.numberTerm() == own && a.number() < m.last());
        boolean grants = a.term() == m.term && (m.vote == null || m.vote == a.from()) && !behind;
        if (grants) {
            m.vote = a.from();
        }
        send(new Letter(2, a.to(), a.from(), m.term, 0, 0, grants, null, 0, 0));
    }

    private void voted(Member m, Letter a) {
        if (m.role == 1 && m.term == a.term() && a.yes()) {
            m.voters.add(a.from());
            if (m.voters.size() > members.size() / 2) {
                m.role = 2;
                for (int i = 0; i < members.size(); i++) {
                    m.next.put(i, m.last() + 1);
                    m.match.put(i, 0);
                }
            }
        }
    }

    private void answer(Member m, Letter a, boolean yes, int number) {
        send(new Letter(4, a.to(), a.from(), m.term, number, 0, yes, null, 0, 0));
    }

    private void append(Member m, Letter a) {
        if (a.term() < m.term) {
            answer(m, a, false, 0);
            return;
        }
        m.role = 0;
        int p = a.number();
        if (p < m.base.number()) {
            answer(m, a, true, m.base.number());
        } else if (m.termAt(p) == null || m.termAt(p) != a.numberTerm()) {
            answer(m, a, false, 0);
        } else {
            int has = p;
            if (a.entry() != null) {
                Entry old = m.log.get(p + 1);
                if (old != null && old.term() != a.entry().term()) {
                    m.log.tailMap(p + 1, true).clear();
                    if (m.commit > m.last()) {
                        m.commit = m.last();
                    }
                }
                if (!m.log.containsKey(p + 1) && m.log.size() < cap) {
                    m.log.put(p + 1, a.entry());
                }
                if (m.log.containsKey(p + 1)) {
                    has = p + 1;
                }
            }
            int lesser = a.commit() < has ? a.commit() : has;
            if (lesser > m.commit) {
                m.commit = lesser;
            }
            answer(m, a, true, has);
        }
    }

    private void appended(Member m, Letter a) {
        if (m.role != 2 || m.term != a.term()) {
            return;
        }
        int from = a.from();
        if (a.yes()) {
            if (a.number() > m.match.get(from)) {
                m.match.put(from, a.number());
            }
            m.next.put(from, m.match.get(from) + 1);
            count(m, a.to());
        } else if (m.next.get(from) > 1) {
            m.next.put(from, m.next.get(from) - 1);
        }
    }

    private void count(Member m, int self) {
        int best = m.commit;
        for (int i = m.commit + 1; i <= m.last(); i++) {
            int have = 1;
            for (int j = 0; j < members.size(); j++) {
                if (j != self && m.match.get(j) >= i) {
                    have++;
                }
            }
            if (m.log.get(i).term() == m.term && have > members.size() / 2) {
                best = i;
            }
        }
        m.commit = best;
    }

    private void snapshot(Member m, Letter a) {
        if (a.term() < m.term) {
            answer(m, a, false, 0);
            return;
        }
        m.role = 0;
        int b = a.number();
        if (b <= m.commit) {
            answer(m, a, true, m.commit);
            return;
        }
        if (m.log.containsKey(b) && m.log.get(b).term() == a.numberTerm()) {
            m.log.headMap(b, true).clear();
        } else {
            m.log.clear();
        }
        m.base = new Snapshot(b, a.numberTerm(), a.state());
        m.commit = b;
        answer(m, a, true, b);
    }

    int drop(int slot) {
        if (slot < 0 || slot >= slots.length) {
            return -1;
        }
        if (slots[slot] == null) {
            return -5;
        }
        slots[slot] = null;
        return 0;
    }

    int duplicate(int slot) {
        if (slot < 0 || slot >= slots.length) {
            return -1;
        }
        return slots[slot] == null ? -5 : send(slots[slot]);
    }

    int crash(int node) {
        Member m = member(node);
        if (m == null) {
            return -1;
        }
        if (!m.up) {
            return -2;
        }
        m.up = false;
        m.role = 0;
        return 0;
    }

    int restart(int node) {
        Member m = member(node);
        if (m == null) {
            return -1;
        }
        if (m.up) {
            return -2;
        }
        m.up = true;
        m.commit = m.base.number();
        return 0;
    }

    int role(int node) {
        Member m = member(node);
        return m == null ? -1 : m.role + (m.up ? 4 : 0);
    }

    int term(int node) {
        Member m = member(node);
        return m == null ? -1 : m.term;
    }

    int vote(int node) {
        Member m = member(node);
        return m == null || m.vote == null ? -1 : m.vote;
    }

    int base(int node) {
        Member m = member(node);
        return m == null ? -1 : m.base.number();
    }

    int last(int node) {
        Member m = member(node);
        return m == null ? -1 : m.last();
    }

    int commit(int node) {
        Member m = member(node);
        return m == null ? -1 : m.commit;
    }

    int termAt(int node, int i) {
        Member m = member(node);
        return m == null || m.termAt(i) == null ? -1 : m.termAt(i);
    }

    int commandAt(int node, int i) {
        Member m = member(node);
        return m == null || !m.log.containsKey(i) ? 0 : m.log.get(i).command();
    }

    int state(int node) {
        Member m = member(node);
        return m == null ? 0 : m.state(m.commit);
    }

    int peer(int leader, int peer) {
        Member m = member(leader);
        if (m == null || m.role != 2 || member(peer) == null || leader == peer) {
            return -1;
        }
        return m.match.get(peer) + 100000 * m.next.get(peer);
    }

    int pending() {
        int many = 0;
        for (Letter letter : slots) {
            if (letter != null) {
                many++;
            }
        }
        return many;
    }

    int slot(int slot) {
        if (slot < 0 || slot >= slots.length) {
            return -1;
        }
        Letter a = slots[slot];
        return a == null ? 0 : a.kind() + 8 * a.from() + 64 * a.to() + 512 * a.term();
    }
}
