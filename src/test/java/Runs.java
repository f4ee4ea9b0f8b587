/** Runs of calls that many tests begin with; each expects that no message waits before it. */
final class Runs {
    static final int[] ODD_NUMBERS = {-1, Integer.MIN_VALUE, Integer.MAX_VALUE};

    /** Numbers that are no nodes, where there are three. */
    static final int[] NO_NODES = {-1, 3, 4, Integer.MIN_VALUE, Integer.MAX_VALUE};

    /** Numbers that are no slots, where there are eight. */
    static final int[] NO_SLOTS = {-1, 8, 9, 40, Integer.MIN_VALUE, Integer.MAX_VALUE};

    private Runs() {
    }

    /** Delivers whatever waits, lowest slot first, until nothing does. */
    static void settle(QuorumLog x) {
        for (int round = 0; round < 100 && x.pending() > 0; round++) {
            x.deliver(lowestTaken(x));
        }
    }

    static int lowestTaken(QuorumLog x) {
        for (int slot = 0; slot < 40; slot++) {
            if (x.slot(slot) > 0) {
                return slot;
            }
        }
        return 0;
    }

    static void dropAll(QuorumLog x) {
        for (int slot = 0; slot < 40; slot++) {
            x.drop(slot);
        }
    }

    static void elect(QuorumLog x, int leader) {
        x.timeout(leader);
        settle(x);
    }

    /** The node is elected by the voter alone: the ASKs to all others are lost. */
    static void electBy(QuorumLog x, int leader, int voter) {
        x.timeout(leader);
        for (int slot = 0; slot < 40; slot++) {
            if (x.slot(slot) > 0 && receiver(x.slot(slot)) != voter) {
                x.drop(slot);
            }
        }
        settle(x);
    }

    /** With a leader 0: messages to node 1 until so many wait. */
    static void fill(QuorumLog x, int many) {
        for (int i = x.pending(); i < many; i++) {
            x.heartbeat(0, 1);
        }
    }

    /** One heartbeat there, and its answer back. */
    static void beat(QuorumLog x, int leader, int peer) {
        x.heartbeat(leader, peer);
        settle(x);
    }

    /** The same while other messages wait: it takes the slot, the lowest that is free. */
    static void beatSlot(QuorumLog x, int leader, int peer, int slot) {
        x.heartbeat(leader, peer);
        x.deliver(slot);
        x.deliver(slot);
    }

    /** Delivers the VOTEs that wait, and nothing else. */
    static void settleVotes(QuorumLog x) {
        for (int slot = 0; slot < 40; slot++) {
            if (x.slot(slot) > 0 && x.slot(slot) % 8 == 2) {
                x.deliver(slot);
            }
        }
    }

    /** A node that goes down and comes back at once: a follower, with its commit at its base. */
    static void bounce(QuorumLog x, int node) {
        x.crash(node);
        x.restart(node);
    }

    static QuorumLog led(int nodes, int cap, int slots, int leader) {
        QuorumLog x = new QuorumLog(nodes, cap, slots);
        elect(x, leader);
        return x;
    }

    static int receiver(int message) {
        return message / 64 % 8;
    }

    static int message(int kind, int from, int to, int term) {
        return kind + 8 * from + 64 * to + 512 * term;
    }

    static int nextAndMatch(int next, int match) {
        return 100000 * next + match;
    }
}
