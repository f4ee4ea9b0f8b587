/** Promises 5, 14 and 15, and what a SNAPSHOT does when it is delivered (promises 3 and 6). */
public final class CompactionTest {
    private static final Checks CHECKS = new Checks("CompactionTest");

    public static void main(String[] args) {
        compactCutsUpToTheCommit();
        compactIsRefused();
        compactedLogsGoOn();
        entriesBehindTheBaseKeepTheirTerms();
        heartbeatSendsASnapshotUpToTheBase();
        heartbeatSendsASnapshotAtTheBaseItself();
        aSnapshotGivesBaseTermAndState();
        aSnapshotBearsWhatWasWhenItWasSent();
        aSnapshotOfAnOldTermIsRefused();
        aRefusedSnapshotLowersNext();
        aSnapshotEndsACandidacy();
        aSnapshotUpToTheCommitChangesNothing();
        aSnapshotBelowTheCommitIsAnsweredWithIt();
        aSnapshotKeepsWhatFollowsItsEntry();
        aSnapshotClearsALogThatDiffers();
        aSnapshotClearsAShorterLog();
        CHECKS.end();
    }

    /** Leader 0 has four entries, node 1 three of them, and three are committed. */
    private static QuorumLog threeCommitted(int cap) {
        QuorumLog x = Runs.led(3, cap, 8, 0);
        for (int i = 1; i <= 4; i++) {
            x.propose(0, 10 * i);
        }
        for (int i = 0; i < 3; i++) {
            Runs.beat(x, 0, 1);
        }
        return x;
    }

    private static int stateOf(int... commands) {
        int state = 0;
        for (int command : commands) {
            state = 31 * state + command;
        }
        return state;
    }

    private static void compactCutsUpToTheCommit() {
        QuorumLog x = threeCommitted(4);
        CHECKS.due("state before", x.state(0), stateOf(10, 20, 30));
        CHECKS.due("compact", x.compact(0), 3);
        CHECKS.due("base", x.base(0), 3);
        CHECKS.due("last", x.last(0), 4);
        CHECKS.due("commit", x.commit(0), 3);
        CHECKS.due("state after", x.state(0), stateOf(10, 20, 30));
        CHECKS.due("term at the base", x.termAt(0, 3), 1);
        CHECKS.due("below it", x.termAt(0, 2), QuorumLog.BAD);
        CHECKS.due("the entry behind it", x.commandAt(0, 4), 40);
        CHECKS.due("compact again", x.compact(0), 0);
        CHECKS.due("base", x.base(0), 3);
        CHECKS.due("a follower", x.compact(1), 2);
        CHECKS.due("its base", x.base(1), 2);
        CHECKS.due("its last", x.last(1), 3);
        CHECKS.due("its state", x.state(1), stateOf(10, 20));
        CHECKS.due("one with nothing", x.compact(2), 0);
        CHECKS.due("its base", x.base(2), 0);
        CHECKS.due("nothing is sent", x.pending(), 0);
    }

    private static void compactIsRefused() {
        QuorumLog x = threeCommitted(4);
        for (int odd : Runs.ODD_NUMBERS) {
            CHECKS.due("compact(" + odd + ")", x.compact(odd), QuorumLog.BAD);
        }
        CHECKS.due("compact behind the last node", x.compact(3), QuorumLog.BAD);
        x.crash(0);
        CHECKS.due("compact of a node that is down", x.compact(0), QuorumLog.DOWN);
        CHECKS.due("its base", x.base(0), 0);
        x.restart(0);
        CHECKS.due("after a restart nothing is committed", x.compact(0), 0);
        CHECKS.due("its last", x.last(0), 4);
    }

    private static void compactedLogsGoOn() {
        QuorumLog x = threeCommitted(4);
        CHECKS.due("full", x.propose(0, 50), QuorumLog.FULL);
        x.compact(0);
        for (int i = 5; i <= 7; i++) {
            CHECKS.due("room again", x.propose(0, 10 * i), i);
        }
        CHECKS.due("full again", x.propose(0, 80), QuorumLog.FULL);
        x.compact(1);
        for (int i = 0; i < 4; i++) {
            Runs.beat(x, 0, 1);
        }
        CHECKS.due("node 1 has no room for 7", x.last(1), 6);
        CHECKS.due("commit", x.commit(0), 6);
        x.compact(1);
        Runs.beat(x, 0, 1);
        CHECKS.due("it has now", x.commandAt(1, 7), 70);
        CHECKS.due("the state goes on from the base", x.state(0), stateOf(10, 20, 30, 40, 50, 60, 70));
        CHECKS.due("compact", x.compact(0), 4);
        CHECKS.due("base", x.base(0), 7);
        CHECKS.due("the state stays", x.state(0), stateOf(10, 20, 30, 40, 50, 60, 70));
    }

    private static void entriesBehindTheBaseKeepTheirTerms() {
        QuorumLog x = threeCommitted(8);
        x.crash(0);
        x.restart(0);
        Runs.elect(x, 0);
        x.propose(0, 50);
        x.crash(0);
        x.restart(0);
        Runs.elect(x, 0);
        x.propose(0, 60);
        x.propose(0, 70);
        CHECKS.due("one of term 2", x.termAt(0, 5), 2);
        for (int i = 0; i < 8 && x.commit(0) < 6; i++) {
            Runs.beat(x, 0, 1);
        }
        CHECKS.due("commit", x.commit(0), 6);
        CHECKS.due("node 1 heard of no commit since term 1", x.compact(1), 2);
        int[] terms = {1, 1, 1, 2, 3};
        for (int i = 2; i <= 6; i++) {
            CHECKS.due("term at " + i, x.termAt(1, i), terms[i - 2]);
            CHECKS.due("command of " + i, x.commandAt(1, i), i == 2 ? 0 : 10 * i);
        }
        CHECKS.due("compact", x.compact(0), 6);
        CHECKS.due("term at the base", x.termAt(0, 6), 3);
        CHECKS.due("term behind it", x.termAt(0, 7), 3);
        CHECKS.due("command behind it", x.commandAt(0, 7), 70);
    }

    private static void heartbeatSendsASnapshotUpToTheBase() {
        QuorumLog x = threeCommitted(4);
        x.compact(0);
        CHECKS.due("NEXT 1, base 3", x.heartbeat(0, 2), 5);
        CHECKS.due("the SNAPSHOT", x.slot(0), Runs.message(5, 0, 2, 1));
        x.drop(0);
        CHECKS.due("NEXT 4, base 3", x.peer(0, 1), Runs.nextAndMatch(4, 3));
        CHECKS.due("an APPEND", x.heartbeat(0, 1), 3);
        x.deliver(0);
        CHECKS.due("p is the base, the entry behind it", x.commandAt(1, 4), 40);
        x.deliver(0);
        x.compact(0);
        CHECKS.due("NEXT 5, base 4", x.heartbeat(0, 1), 3);
        x.drop(0);
        CHECKS.due("a new base", x.base(0), 4);
    }

    /** NEXT falls to the base by an APPEND of the leader's own older term. */
    private static void heartbeatSendsASnapshotAtTheBaseItself() {
        QuorumLog x = Runs.led(3, 4, 8, 0);
        x.propose(0, 1);
        x.propose(0, 2);
        for (int i = 0; i < 3; i++) {
            Runs.beat(x, 0, 1);
        }
        x.heartbeat(0, 1);
        x.crash(0);
        x.restart(0);
        x.timeout(0);
        x.deliver(1);
        x.deliver(1);
        CHECKS.due("leader of term 2", x.role(0), 6);
        x.propose(0, 3);
        Runs.beatSlot(x, 0, 1, 1);
        x.compact(0);
        CHECKS.due("base 3", x.base(0), 3);
        CHECKS.due("NEXT 4", x.heartbeat(0, 1), 3);
        x.drop(1);
        CHECKS.due("an APPEND of term 1 is refused", x.deliver(0), 3);
        CHECKS.due("deliver the no", x.deliver(0), 4);
        CHECKS.due("NEXT 3", x.peer(0, 1), Runs.nextAndMatch(3, 3));
        CHECKS.due("not greater than the base", x.heartbeat(0, 1), 5);
    }

    private static void aSnapshotGivesBaseTermAndState() {
        QuorumLog x = threeCommitted(4);
        x.compact(0);
        x.heartbeat(0, 2);
        CHECKS.due("deliver", x.deliver(0), 5);
        CHECKS.due("base", x.base(2), 3);
        CHECKS.due("last", x.last(2), 3);
        CHECKS.due("commit", x.commit(2), 3);
        CHECKS.due("term at the base", x.termAt(2, 3), 1);
        CHECKS.due("state", x.state(2), stateOf(10, 20, 30));
        CHECKS.due("the answer is an APPENDED", x.slot(0), Runs.message(4, 2, 0, 1));
        x.deliver(0);
        CHECKS.due("yes, and 3", x.peer(0, 2), Runs.nextAndMatch(4, 3));
        Runs.beat(x, 0, 2);
        CHECKS.due("entries follow", x.commandAt(2, 4), 40);
        CHECKS.due("and are counted", x.commit(0), 4);
        Runs.beat(x, 0, 2);
        CHECKS.due("the state goes on", x.state(2), stateOf(10, 20, 30, 40));
    }

    private static void aSnapshotBearsWhatWasWhenItWasSent() {
        QuorumLog x = threeCommitted(4);
        x.compact(0);
        x.heartbeat(0, 2);
        Runs.beatSlot(x, 0, 1, 1);
        CHECKS.due("a later base", x.compact(0), 1);
        x.deliver(0);
        CHECKS.due("base of then", x.base(2), 3);
        CHECKS.due("state of then", x.state(2), stateOf(10, 20, 30));
    }

    private static void aSnapshotOfAnOldTermIsRefused() {
        QuorumLog x = threeCommitted(4);
        x.compact(0);
        x.heartbeat(0, 2);
        x.timeout(2);
        CHECKS.due("deliver", x.deliver(0), 5);
        CHECKS.due("nothing came", x.base(2), 0);
        CHECKS.due("still a candidate", x.role(2), 5);
        CHECKS.due("the answer bears the greater term", x.slot(0), Runs.message(4, 2, 0, 2));
        x.deliver(0);
        CHECKS.due("the leader is a follower", x.role(0), 4);
    }

    /** A SNAPSHOT of term 1 is refused in term 2, where its sender leads again. */
    private static void aRefusedSnapshotLowersNext() {
        QuorumLog x = threeCommitted(4);
        x.compact(0);
        x.heartbeat(0, 2);
        x.crash(0);
        x.restart(0);
        x.timeout(0);
        x.deliver(2);
        x.deliver(2);
        CHECKS.due("leader of term 2", x.peer(0, 2), Runs.nextAndMatch(5, 0));
        x.deliver(0);
        CHECKS.due("nothing came", x.base(2), 0);
        CHECKS.due("deliver the no", x.deliver(0), 4);
        CHECKS.due("NEXT is 1 less", x.peer(0, 2), Runs.nextAndMatch(4, 0));
    }

    /** Nodes 0 and 2 both stand in term 1; node 0 wins, commits and compacts. */
    private static void aSnapshotEndsACandidacy() {
        QuorumLog x = new QuorumLog(3, 4, 8);
        x.timeout(2);
        Runs.dropAll(x);
        Runs.electBy(x, 0, 1);
        x.propose(0, 5);
        Runs.beat(x, 0, 1);
        x.compact(0);
        x.heartbeat(0, 2);
        CHECKS.due("a candidate", x.role(2), 5);
        CHECKS.due("of the leader's term", x.term(2), x.term(0));
        CHECKS.due("deliver the SNAPSHOT", x.deliver(0), 5);
        CHECKS.due("a follower", x.role(2), 4);
        CHECKS.due("its vote stays", x.vote(2), 2);
        CHECKS.due("base", x.base(2), 1);
    }

    /**
     * Node 2 has entry 1 and has committed it, node 0 knows that, and a SNAPSHOT of 1, sent before
     * it knew, waits in slot 1.
     */
    private static QuorumLog withALateSnapshot() {
        QuorumLog x = Runs.led(3, 4, 8, 0);
        x.propose(0, 1);
        Runs.beat(x, 0, 1);
        x.heartbeat(0, 2);
        x.compact(0);
        x.heartbeat(0, 2);
        x.deliver(0);
        x.deliver(0);
        return x;
    }

    private static void aSnapshotUpToTheCommitChangesNothing() {
        QuorumLog x = withALateSnapshot();
        CHECKS.due("the SNAPSHOT", x.slot(1), Runs.message(5, 0, 2, 1));
        CHECKS.due("node 2 has committed as much", x.commit(2), 1);
        CHECKS.due("deliver", x.deliver(1), 5);
        CHECKS.due("base stays", x.base(2), 0);
        CHECKS.due("the entry stays", x.commandAt(2, 1), 1);
        CHECKS.due("last stays", x.last(2), 1);
        CHECKS.due("deliver its answer", x.deliver(0), 4);
        CHECKS.due("yes, and 1", x.peer(0, 2), Runs.nextAndMatch(2, 1));
    }

    /** The leader learns by the answer to a SNAPSHOT of 1 that the follower has 2. */
    private static void aSnapshotBelowTheCommitIsAnsweredWithIt() {
        QuorumLog x = withALateSnapshot();
        x.propose(0, 2);
        Runs.beatSlot(x, 0, 1, 0);
        CHECKS.due("commit of the leader", x.commit(0), 2);
        x.heartbeat(0, 2);
        x.deliver(0);
        CHECKS.due("its answer is lost", x.drop(0), 0);
        CHECKS.due("commit of node 2", x.commit(2), 2);
        CHECKS.due("what the leader knows of it", x.peer(0, 2), Runs.nextAndMatch(2, 1));
        CHECKS.due("deliver the SNAPSHOT", x.deliver(1), 5);
        CHECKS.due("base stays", x.base(2), 0);
        CHECKS.due("last stays", x.last(2), 2);
        CHECKS.due("commit stays", x.commit(2), 2);
        CHECKS.due("deliver its answer", x.deliver(0), 4);
        CHECKS.due("yes, and 2", x.peer(0, 2), Runs.nextAndMatch(3, 2));
    }

    private static void aSnapshotKeepsWhatFollowsItsEntry() {
        QuorumLog x = withALateSnapshot();
        x.propose(0, 2);
        x.propose(0, 3);
        Runs.beatSlot(x, 0, 2, 0);
        Runs.beatSlot(x, 0, 2, 0);
        x.crash(2);
        x.restart(2);
        CHECKS.due("three entries", x.last(2), 3);
        CHECKS.due("none committed", x.commit(2), 0);
        CHECKS.due("deliver the SNAPSHOT of 1", x.deliver(1), 5);
        CHECKS.due("base", x.base(2), 1);
        CHECKS.due("term at the base", x.termAt(2, 1), 1);
        CHECKS.due("commit", x.commit(2), 1);
        CHECKS.due("last stays", x.last(2), 3);
        CHECKS.due("entry 1 is gone", x.commandAt(2, 1), 0);
        CHECKS.due("entry 2 stays", x.commandAt(2, 2), 2);
        CHECKS.due("entry 3 stays", x.commandAt(2, 3), 3);
        CHECKS.due("state", x.state(2), 1);
        CHECKS.due("deliver its answer", x.deliver(0), 4);
        CHECKS.due("yes, and 1, which is less", x.peer(0, 2), Runs.nextAndMatch(4, 3));
    }

    private static void aSnapshotClearsALogThatDiffers() {
        QuorumLog x = Runs.led(3, 4, 8, 0);
        for (int i = 1; i <= 3; i++) {
            x.propose(0, 90 + i);
        }
        Runs.electBy(x, 1, 2);
        x.propose(1, 7);
        Runs.beat(x, 1, 2);
        CHECKS.due("compact", x.compact(1), 1);
        CHECKS.due("a SNAPSHOT", x.heartbeat(1, 0), 5);
        x.deliver(0);
        CHECKS.due("all entries went", x.last(0), 1);
        CHECKS.due("base", x.base(0), 1);
        CHECKS.due("its term", x.termAt(0, 1), 2);
        CHECKS.due("its state", x.state(0), 7);
        CHECKS.due("commit", x.commit(0), 1);
        CHECKS.due("no entry", x.commandAt(0, 2), 0);
    }

    private static void aSnapshotClearsAShorterLog() {
        QuorumLog x = threeCommitted(4);
        x.heartbeat(0, 2);
        x.deliver(0);
        x.drop(0);
        CHECKS.due("node 2 has entry 1", x.last(2), 1);
        x.compact(0);
        Runs.beat(x, 0, 2);
        CHECKS.due("base", x.base(2), 3);
        CHECKS.due("last", x.last(2), 3);
        CHECKS.due("state", x.state(2), stateOf(10, 20, 30));
        CHECKS.due("room for four", x.propose(0, 50), 5);
        x.propose(0, 60);
        x.propose(0, 70);
        for (int i = 0; i < 4; i++) {
            Runs.beat(x, 0, 2);
        }
        CHECKS.due("all four came", x.last(2), 7);
        CHECKS.due("the last of them", x.commandAt(2, 7), 70);
    }
}
