/** The edges that promises 2 to 5, 9 and 10 name: each sentence by itself. */
public final class CallEdgesTest {
    private static final Checks CHECKS = new Checks("CallEdgesTest");

    public static void main(String[] args) {
        timeoutOfNoNode();
        timeoutOfANodeThatIsDown();
        timeoutOfALeader();
        timeoutWithASlotTooFew();
        timeoutWithJustEnoughSlots();
        timeoutOfACandidate();
        timeoutAsksInTheOrderOfNumbers();
        heartbeatOfNoNode();
        heartbeatToItself();
        heartbeatOfANodeThatIsDown();
        heartbeatOfNoLeader();
        heartbeatWithoutAFreeSlot();
        heartbeatWithOneFreeSlot();
        heartbeatWhereNextIsTheBase();
        heartbeatWhereNextIsLessThanTheBase();
        heartbeatWhereNextIsOneMoreThanTheBase();
        heartbeatWithTheEntryNext();
        heartbeatWithoutAnEntry();
        proposeAtNoNode();
        proposeAtANodeThatIsDown();
        proposeAtNoLeader();
        proposeToAFullLog();
        proposeOfTheLastEntryThatFits();
        proposeNeedsNoSlot();
        compactOfNoNode();
        compactOfANodeThatIsDown();
        compactWithNothingToGo();
        compactOfAWholeLog();
        compactOfAllButOne();
        crashOfNoNode();
        crashOfANodeThatIsDown();
        crashOfEachRole();
        restartOfNoNode();
        restartOfANodeThatIsUp();
        restartWithTheCommitAboveTheBase();
        restartWithTheCommitAtTheBase();
        CHECKS.end();
    }

    private static QuorumLog led() {
        return Runs.led(3, 4, 8, 0);
    }

    private static QuorumLog ledAndFilled() {
        QuorumLog x = led();
        Runs.fill(x, 8);
        return x;
    }

    /** Leader 0 has entries 1 to 3, of which two are committed; node 1 has those two. */
    private static QuorumLog twoOfThreeCommitted() {
        QuorumLog x = led();
        for (int i = 1; i <= 3; i++) {
            x.propose(0, 10 * i);
        }
        Runs.beat(x, 0, 1);
        Runs.beat(x, 0, 1);
        return x;
    }

    private static QuorumLog withOneDown() {
        QuorumLog x = twoOfThreeCommitted();
        x.crash(1);
        return x;
    }

    private static QuorumLog filledWithOneDown() {
        QuorumLog x = ledAndFilled();
        x.crash(2);
        return x;
    }

    /** Node 1 stands in term 2, and its ASKs are lost; node 0 leads term 1. */
    private static QuorumLog withACandidate() {
        QuorumLog x = led();
        x.timeout(1);
        Runs.dropAll(x);
        return x;
    }

    private static QuorumLog candidateAndFilled() {
        QuorumLog x = withACandidate();
        Runs.fill(x, 8);
        return x;
    }

    private static void timeoutOfNoNode() {
        CHECKS.at("2: BAD");
        for (int node : Runs.NO_NODES) {
            Twins.refused(CHECKS, () -> led(), x -> x.timeout(node), QuorumLog.BAD);
            Twins.refused(CHECKS, () -> ledAndFilled(), x -> x.timeout(node), QuorumLog.BAD);
        }
        for (int nodes = 3; nodes <= 5; nodes++) {
            QuorumLog x = new QuorumLog(nodes, 4, 8);
            CHECKS.due("behind the last of " + nodes, x.timeout(nodes), QuorumLog.BAD);
            CHECKS.due("the last of " + nodes, x.timeout(nodes - 1), 0);
        }
    }

    private static void timeoutOfANodeThatIsDown() {
        CHECKS.at("2: DOWN");
        Twins.refused(CHECKS, () -> withOneDown(), x -> x.timeout(1), QuorumLog.DOWN);
        Twins.refused(CHECKS, () -> filledWithOneDown(), x -> x.timeout(2), QuorumLog.DOWN);
    }

    private static void timeoutOfALeader() {
        CHECKS.at("2: ROLE (it is leader)");
        Twins.refused(CHECKS, () -> led(), x -> x.timeout(0), QuorumLog.ROLE);
        Twins.refused(CHECKS, () -> ledAndFilled(), x -> x.timeout(0), QuorumLog.ROLE);
        QuorumLog x = led();
        Runs.bounce(x, 0);
        CHECKS.due("of one that was leader", x.timeout(0), 0);
    }

    private static void timeoutWithASlotTooFew() {
        CHECKS.at("2: FULL (there are not N - 1 free slots)");
        for (int nodes = 3; nodes <= 5; nodes++) {
            int many = nodes;
            Twins.refused(CHECKS, () -> ledWithFree(many, many - 2), x -> x.timeout(1), QuorumLog.FULL);
            Twins.refused(CHECKS, () -> ledWithFree(many, 0), x -> x.timeout(1), QuorumLog.FULL);
        }
        Twins.refused(CHECKS, () -> candidateAndFilled(), x -> x.timeout(1), QuorumLog.FULL);
    }

    private static QuorumLog ledWithFree(int nodes, int free) {
        QuorumLog x = Runs.led(nodes, 4, 8, 0);
        Runs.fill(x, 8 - free);
        return x;
    }

    private static void timeoutWithJustEnoughSlots() {
        CHECKS.at("2: FULL (there are not N - 1 free slots)");
        for (int nodes = 3; nodes <= 5; nodes++) {
            QuorumLog x = ledWithFree(nodes, nodes - 1);
            CHECKS.due("with N - 1 free slots", x.timeout(1), 0);
            CHECKS.due("all slots are taken", x.pending(), 8);
            CHECKS.due("the last ASK", x.slot(7), Runs.message(1, 1, nodes - 1, 2));
        }
    }

    private static void timeoutOfACandidate() {
        CHECKS.at("2: its vote and only voter is it");
        QuorumLog x = new QuorumLog(4, 4, 8);
        x.timeout(2);
        x.deliver(0);
        x.deliver(0);
        CHECKS.due("two of four are voters", x.role(2), 5);
        Runs.dropAll(x);
        CHECKS.due("timeout of a candidate", x.timeout(2), 0);
        CHECKS.due("its term", x.term(2), 2);
        CHECKS.due("its role", x.role(2), 5);
        CHECKS.due("its vote", x.vote(2), 2);
        x.deliver(1);
        x.deliver(1);
        CHECKS.due("one voter of this term beside itself", x.role(2), 5);
        x.deliver(0);
        x.deliver(0);
        CHECKS.due("two beside itself", x.role(2), 6);
    }

    private static void timeoutAsksInTheOrderOfNumbers() {
        CHECKS.at("2: it sends an ASK to all others in the order of their numbers");
        for (int node = 0; node < 5; node++) {
            QuorumLog x = new QuorumLog(5, 4, 8);
            x.timeout(node);
            for (int slot = 0; slot < 4; slot++) {
                int to = slot < node ? slot : slot + 1;
                CHECKS.due("slot " + slot + " after node " + node, x.slot(slot), Runs.message(1, node, to, 1));
            }
            CHECKS.due("none to itself", x.pending(), 4);
        }
    }

    private static void heartbeatOfNoNode() {
        CHECKS.at("3: BAD");
        for (int node : Runs.NO_NODES) {
            Twins.refused(CHECKS, () -> led(), x -> x.heartbeat(node, 1), QuorumLog.BAD);
            Twins.refused(CHECKS, () -> led(), x -> x.heartbeat(0, node), QuorumLog.BAD);
            Twins.refused(CHECKS, () -> led(), x -> x.heartbeat(node, node), QuorumLog.BAD);
            Twins.refused(CHECKS, () -> withOneDown(), x -> x.heartbeat(1, node), QuorumLog.BAD);
            Twins.refused(CHECKS, () -> led(), x -> x.heartbeat(1, node), QuorumLog.BAD);
            Twins.refused(CHECKS, () -> ledAndFilled(), x -> x.heartbeat(0, node), QuorumLog.BAD);
        }
        for (int nodes = 4; nodes <= 5; nodes++) {
            QuorumLog x = Runs.led(nodes, 4, 8, 0);
            CHECKS.due("to behind the last of " + nodes, x.heartbeat(0, nodes), QuorumLog.BAD);
            CHECKS.due("to the last of " + nodes, x.heartbeat(0, nodes - 1), 3);
        }
    }

    private static void heartbeatToItself() {
        CHECKS.at("3: BAD (also when both are one)");
        Twins.refused(CHECKS, () -> led(), x -> x.heartbeat(0, 0), QuorumLog.BAD);
        Twins.refused(CHECKS, () -> led(), x -> x.heartbeat(2, 2), QuorumLog.BAD);
        Twins.refused(CHECKS, () -> withOneDown(), x -> x.heartbeat(1, 1), QuorumLog.BAD);
        Twins.refused(CHECKS, () -> withACandidate(), x -> x.heartbeat(1, 1), QuorumLog.BAD);
        Twins.refused(CHECKS, () -> ledAndFilled(), x -> x.heartbeat(0, 0), QuorumLog.BAD);
    }

    private static void heartbeatOfANodeThatIsDown() {
        CHECKS.at("3: DOWN");
        Twins.refused(CHECKS, () -> withOneDown(), x -> x.heartbeat(1, 0), QuorumLog.DOWN);
        Twins.refused(CHECKS, () -> filledWithOneDown(), x -> x.heartbeat(2, 0), QuorumLog.DOWN);
        QuorumLog x = led();
        x.crash(0);
        CHECKS.due("one that was leader", x.heartbeat(0, 1), QuorumLog.DOWN);
        QuorumLog y = led();
        y.crash(1);
        CHECKS.due("to a peer that is down", y.heartbeat(0, 1), 3);
    }

    private static void heartbeatOfNoLeader() {
        CHECKS.at("3: ROLE (it is no leader)");
        Twins.refused(CHECKS, () -> led(), x -> x.heartbeat(1, 0), QuorumLog.ROLE);
        Twins.refused(CHECKS, () -> withACandidate(), x -> x.heartbeat(1, 0), QuorumLog.ROLE);
        Twins.refused(CHECKS, () -> ledAndFilled(), x -> x.heartbeat(1, 2), QuorumLog.ROLE);
        Twins.refused(CHECKS, () -> candidateAndFilled(), x -> x.heartbeat(1, 2), QuorumLog.ROLE);
        QuorumLog x = led();
        Runs.bounce(x, 0);
        CHECKS.due("one that was leader", x.heartbeat(0, 1), QuorumLog.ROLE);
    }

    private static void heartbeatWithoutAFreeSlot() {
        CHECKS.at("3: FULL");
        Twins.refused(CHECKS, () -> ledAndFilled(), x -> x.heartbeat(0, 1), QuorumLog.FULL);
        Twins.refused(CHECKS, () -> nextAtTheBaseAndFilled(), x -> x.heartbeat(0, 1), QuorumLog.FULL);
    }

    private static QuorumLog nextAtTheBaseAndFilled() {
        QuorumLog x = nextAtTheBase(1);
        while (x.pending() < 8) {
            x.heartbeat(0, 2);
        }
        return x;
    }

    private static void heartbeatWithOneFreeSlot() {
        CHECKS.at("3: FULL");
        QuorumLog x = led();
        Runs.fill(x, 7);
        CHECKS.due("with one free slot", x.heartbeat(0, 2), 3);
        CHECKS.due("it is there", x.slot(7), Runs.message(3, 0, 2, 1));
        CHECKS.due("all are taken", x.pending(), 8);
        CHECKS.due("with none", x.heartbeat(0, 2), QuorumLog.FULL);
        x.drop(3);
        CHECKS.due("with one again", x.heartbeat(0, 2), 3);
    }

    /**
     * Leader 0 of term 2 has three entries, all committed, and a base of 3; node 1 has all three, and
     * NEXT of it is 4. So many APPENDs of term 1 are then refused by node 1, each of which takes 1
     * from NEXT.
     */
    private static QuorumLog nextAtTheBase(int refusals) {
        QuorumLog x = led();
        x.propose(0, 1);
        x.propose(0, 2);
        Runs.beat(x, 0, 1);
        Runs.beat(x, 0, 1);
        x.heartbeat(0, 1);
        Runs.bounce(x, 0);
        x.timeout(0);
        x.deliver(1);
        x.deliver(1);
        x.drop(2);
        x.propose(0, 3);
        Runs.beatSlot(x, 0, 1, 1);
        x.compact(0);
        for (int i = 0; i < refusals; i++) {
            x.duplicate(0);
            x.deliver(1);
            x.deliver(1);
        }
        x.drop(0);
        return x;
    }

    private static void heartbeatWhereNextIsTheBase() {
        CHECKS.at("3: if NEXT of that is not greater than its base");
        QuorumLog x = nextAtTheBase(1);
        CHECKS.due("the base", x.base(0), 3);
        CHECKS.due("NEXT is 3", x.peer(0, 1), Runs.nextAndMatch(3, 3));
        CHECKS.due("heartbeat", x.heartbeat(0, 1), 5);
        CHECKS.due("a SNAPSHOT", x.slot(0), Runs.message(5, 0, 1, 2));
    }

    private static void heartbeatWhereNextIsLessThanTheBase() {
        CHECKS.at("3: if NEXT of that is not greater than its base");
        QuorumLog x = nextAtTheBase(3);
        CHECKS.due("NEXT is 1", x.peer(0, 1), Runs.nextAndMatch(1, 3));
        CHECKS.due("heartbeat", x.heartbeat(0, 1), 5);
        x.deliver(0);
        CHECKS.due("'a SNAPSHOT of its base'", x.base(1), 3);
        CHECKS.due("its term", x.termAt(1, 3), 2);
        CHECKS.due("its state", x.state(1), (1 * 31 + 2) * 31 + 3);
    }

    private static void heartbeatWhereNextIsOneMoreThanTheBase() {
        CHECKS.at("3: otherwise an APPEND with NEXT - 1, the term at it");
        QuorumLog x = nextAtTheBase(0);
        CHECKS.due("NEXT is 4", x.peer(0, 1), Runs.nextAndMatch(4, 3));
        x.propose(0, 4);
        CHECKS.due("heartbeat", x.heartbeat(0, 1), 3);
        CHECKS.due("an APPEND", x.slot(0), Runs.message(3, 0, 1, 2));
        x.deliver(0);
        CHECKS.due("p is the base, and the term that of the base", x.commandAt(1, 4), 4);
        CHECKS.due("'and its commit'", x.commit(1), 3);
    }

    private static void heartbeatWithTheEntryNext() {
        CHECKS.at("3: the entry NEXT if it has that");
        QuorumLog x = twoOfThreeCommitted();
        CHECKS.due("NEXT is the last number", x.peer(0, 1), Runs.nextAndMatch(3, 2));
        x.heartbeat(0, 1);
        x.deliver(0);
        CHECKS.due("entry 3 came", x.last(1), 3);
        CHECKS.due("its command", x.commandAt(1, 3), 30);
        CHECKS.due("its term", x.termAt(1, 3), 1);
        x.heartbeat(0, 2);
        x.deliver(1);
        CHECKS.due("NEXT is 1: entry 1 alone came", x.last(2), 1);
        CHECKS.due("its command", x.commandAt(2, 1), 10);
    }

    private static void heartbeatWithoutAnEntry() {
        CHECKS.at("3: the entry NEXT if it has that");
        QuorumLog x = led();
        CHECKS.due("an empty log", x.heartbeat(0, 1), 3);
        x.deliver(0);
        CHECKS.due("no entry came", x.last(1), 0);
        x.deliver(0);
        x.propose(0, 5);
        Runs.beat(x, 0, 1);
        CHECKS.due("NEXT is the last number + 1", x.peer(0, 1), Runs.nextAndMatch(2, 1));
        CHECKS.due("heartbeat", x.heartbeat(0, 1), 3);
        x.deliver(0);
        CHECKS.due("no entry came", x.last(1), 1);
        CHECKS.due("'and its commit'", x.commit(1), 1);
    }

    private static void proposeAtNoNode() {
        CHECKS.at("4: BAD");
        for (int node : Runs.NO_NODES) {
            Twins.refused(CHECKS, () -> led(), x -> x.propose(node, 7), QuorumLog.BAD);
        }
        QuorumLog x = Runs.led(5, 4, 8, 4);
        CHECKS.due("behind the last of 5", x.propose(5, 7), QuorumLog.BAD);
        CHECKS.due("the last of 5", x.propose(4, 7), 1);
    }

    private static void proposeAtANodeThatIsDown() {
        CHECKS.at("4: DOWN");
        Twins.refused(CHECKS, () -> withOneDown(), x -> x.propose(1, 7), QuorumLog.DOWN);
        Twins.refused(CHECKS, () -> fullAndDown(), x -> x.propose(0, 7), QuorumLog.DOWN);
    }

    private static QuorumLog full(int cap) {
        QuorumLog x = Runs.led(3, cap, 8, 0);
        for (int i = 1; i <= cap; i++) {
            x.propose(0, i);
        }
        return x;
    }

    private static QuorumLog fullAndDown() {
        QuorumLog x = full(1);
        x.crash(0);
        return x;
    }

    private static QuorumLog fullAndBack() {
        QuorumLog x = fullAndDown();
        x.restart(0);
        return x;
    }

    private static void proposeAtNoLeader() {
        CHECKS.at("4: ROLE");
        Twins.refused(CHECKS, () -> led(), x -> x.propose(1, 7), QuorumLog.ROLE);
        Twins.refused(CHECKS, () -> withACandidate(), x -> x.propose(1, 7), QuorumLog.ROLE);
        Twins.refused(CHECKS, () -> fullAndBack(), x -> x.propose(0, 7), QuorumLog.ROLE);
    }

    private static void proposeToAFullLog() {
        CHECKS.at("4: FULL");
        for (int cap = 1; cap <= 12; cap++) {
            int entries = cap;
            Twins.refused(CHECKS, () -> full(entries), x -> x.propose(0, 7), QuorumLog.FULL);
        }
        Twins.refused(CHECKS, () -> fullBehindABase(), x -> x.propose(0, 7), QuorumLog.FULL);
    }

    /** Base 2, and the entries 3 to 6 where four fit. */
    private static QuorumLog fullBehindABase() {
        QuorumLog x = twoOfThreeCommitted();
        x.compact(0);
        for (int i = 4; i <= 6; i++) {
            x.propose(0, 10 * i);
        }
        return x;
    }

    private static void proposeOfTheLastEntryThatFits() {
        CHECKS.at("Terms: A log is FULL with CAP entries");
        QuorumLog x = twoOfThreeCommitted();
        CHECKS.due("the fourth of four", x.propose(0, 40), 4);
        CHECKS.due("one too many", x.propose(0, 50), QuorumLog.FULL);
        x.compact(0);
        CHECKS.due("entries that went leave room", x.propose(0, 50), 5);
        CHECKS.due("the fourth behind the base", x.propose(0, 60), 6);
        CHECKS.due("one too many", x.propose(0, 70), QuorumLog.FULL);
        CHECKS.due("last", x.last(0), 6);
    }

    private static void proposeNeedsNoSlot() {
        CHECKS.at("4: FULL");
        QuorumLog x = ledAndFilled();
        CHECKS.due("propose while no slot is free", x.propose(0, 7), 1);
        CHECKS.due("nothing is sent", x.pending(), 8);
    }

    private static void compactOfNoNode() {
        CHECKS.at("5: BAD");
        for (int node : Runs.NO_NODES) {
            Twins.refused(CHECKS, () -> twoOfThreeCommitted(), x -> x.compact(node), QuorumLog.BAD);
        }
        QuorumLog x = new QuorumLog(5, 4, 8);
        CHECKS.due("behind the last of 5", x.compact(5), QuorumLog.BAD);
        CHECKS.due("the last of 5", x.compact(4), 0);
    }

    private static void compactOfANodeThatIsDown() {
        CHECKS.at("5: DOWN");
        Twins.refused(CHECKS, () -> withOneDown(), x -> x.compact(1), QuorumLog.DOWN);
        QuorumLog x = twoOfThreeCommitted();
        x.crash(0);
        CHECKS.due("with entries that could go", x.compact(0), QuorumLog.DOWN);
        CHECKS.due("its base", x.base(0), 0);
    }

    private static void compactWithNothingToGo() {
        CHECKS.at("5: Entries up to the commit go");
        Twins.refused(CHECKS, () -> led(), x -> x.compact(0), 0);
        Twins.refused(CHECKS, () -> full(4), x -> x.compact(0), 0);
        QuorumLog x = twoOfThreeCommitted();
        CHECKS.due("the first time", x.compact(0), 2);
        CHECKS.due("again", x.compact(0), 0);
        CHECKS.due("base", x.base(0), 2);
        CHECKS.due("term at the base", x.termAt(0, 2), 1);
        CHECKS.due("state", x.state(0), 10 * 31 + 20);
        CHECKS.due("last", x.last(0), 3);
    }

    private static void compactOfAWholeLog() {
        CHECKS.at("5: the base is that, with the term at it and the state up to it");
        QuorumLog x = twoOfThreeCommitted();
        Runs.beat(x, 0, 1);
        CHECKS.due("all three", x.compact(0), 3);
        CHECKS.due("base", x.base(0), 3);
        CHECKS.due("last is the base", x.last(0), 3);
        CHECKS.due("commit", x.commit(0), 3);
        CHECKS.due("term at the base", x.termAt(0, 3), 1);
        CHECKS.due("state", x.state(0), (10 * 31 + 20) * 31 + 30);
        CHECKS.due("the next number", x.propose(0, 40), 4);
    }

    private static void compactOfAllButOne() {
        CHECKS.at("5: how many went");
        QuorumLog x = twoOfThreeCommitted();
        CHECKS.due("two of three", x.compact(0), 2);
        CHECKS.due("base", x.base(0), 2);
        CHECKS.due("last", x.last(0), 3);
        CHECKS.due("the entry behind the base", x.commandAt(0, 3), 30);
        CHECKS.due("its term", x.termAt(0, 3), 1);
        CHECKS.due("no entry at the base", x.commandAt(0, 2), 0);
        CHECKS.due("a follower that knows of one", x.compact(1), 1);
        CHECKS.due("its base", x.base(1), 1);
        CHECKS.due("its last", x.last(1), 2);
    }

    private static void crashOfNoNode() {
        CHECKS.at("9: BAD");
        for (int node : Runs.NO_NODES) {
            Twins.refused(CHECKS, () -> twoOfThreeCommitted(), x -> x.crash(node), QuorumLog.BAD);
        }
        QuorumLog x = new QuorumLog(5, 4, 8);
        CHECKS.due("behind the last of 5", x.crash(5), QuorumLog.BAD);
        CHECKS.due("the last of 5", x.crash(4), 0);
    }

    private static void crashOfANodeThatIsDown() {
        CHECKS.at("9: DOWN");
        Twins.refused(CHECKS, () -> withOneDown(), x -> x.crash(1), QuorumLog.DOWN);
    }

    private static void crashOfEachRole() {
        CHECKS.at("9: and a follower; all else stays as it is");
        QuorumLog x = withACandidate();
        int[] roles = {6, 5, 4};
        for (int node = 0; node < 3; node++) {
            CHECKS.due("role before", x.role(node), roles[node]);
            int term = x.term(node);
            int vote = x.vote(node);
            CHECKS.due("crash", x.crash(node), 0);
            CHECKS.due("role", x.role(node), 0);
            CHECKS.due("term", x.term(node), term);
            CHECKS.due("vote", x.vote(node), vote);
        }
        QuorumLog y = twoOfThreeCommitted();
        y.crash(0);
        CHECKS.due("commit", y.commit(0), 2);
        CHECKS.due("base", y.base(0), 0);
        CHECKS.due("last", y.last(0), 3);
        CHECKS.due("state", y.state(0), 10 * 31 + 20);
    }

    private static void restartOfNoNode() {
        CHECKS.at("10: BAD");
        for (int node : Runs.NO_NODES) {
            Twins.refused(CHECKS, () -> withOneDown(), x -> x.restart(node), QuorumLog.BAD);
        }
        QuorumLog x = new QuorumLog(5, 4, 8);
        x.crash(4);
        CHECKS.due("behind the last of 5", x.restart(5), QuorumLog.BAD);
        CHECKS.due("the last of 5", x.restart(4), 0);
    }

    private static void restartOfANodeThatIsUp() {
        CHECKS.at("10: DOWN when it is up");
        Twins.refused(CHECKS, () -> twoOfThreeCommitted(), x -> x.restart(0), QuorumLog.DOWN);
        Twins.refused(CHECKS, () -> twoOfThreeCommitted(), x -> x.restart(1), QuorumLog.DOWN);
        Twins.refused(CHECKS, () -> withACandidate(), x -> x.restart(1), QuorumLog.DOWN);
        QuorumLog x = withOneDown();
        CHECKS.due("the first time", x.restart(1), 0);
        CHECKS.due("again", x.restart(1), QuorumLog.DOWN);
    }

    private static void restartWithTheCommitAboveTheBase() {
        CHECKS.at("10: its commit is its base");
        QuorumLog x = twoOfThreeCommitted();
        x.compact(0);
        Runs.beat(x, 0, 1);
        CHECKS.due("commit before", x.commit(0), 3);
        x.crash(0);
        CHECKS.due("commit while it is down", x.commit(0), 3);
        CHECKS.due("restart", x.restart(0), 0);
        CHECKS.due("commit", x.commit(0), 2);
        CHECKS.due("state", x.state(0), 10 * 31 + 20);
        CHECKS.due("base", x.base(0), 2);
        CHECKS.due("last", x.last(0), 3);
        CHECKS.due("role", x.role(0), 4);
        CHECKS.due("term", x.term(0), 1);
        CHECKS.due("vote", x.vote(0), 0);
        CHECKS.due("entry 3", x.commandAt(0, 3), 30);
    }

    private static void restartWithTheCommitAtTheBase() {
        CHECKS.at("10: its commit is its base");
        QuorumLog x = new QuorumLog(3, 4, 8);
        x.crash(2);
        CHECKS.due("restart", x.restart(2), 0);
        CHECKS.due("commit", x.commit(2), 0);
        CHECKS.due("state", x.state(2), 0);
        CHECKS.due("vote", x.vote(2), QuorumLog.BAD);
        QuorumLog y = twoOfThreeCommitted();
        y.compact(0);
        Runs.bounce(y, 0);
        CHECKS.due("commit", y.commit(0), 2);
        CHECKS.due("state", y.state(0), 10 * 31 + 20);
    }
}
