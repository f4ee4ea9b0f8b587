/** The edges in 'Terms' of SNAPSHOT: each sentence by itself. */
public final class SnapshotEdgesTest {
    private static final Checks CHECKS = new Checks("SnapshotEdgesTest");

    public static void main(String[] args) {
        aSnapshotOfALesserTerm();
        aNoReachesALeader();
        aSnapshotToACandidateOfItsTerm();
        aSnapshotUpToTheCommitToACandidate();
        aSnapshotBelowTheCommit();
        aSnapshotAtTheCommit();
        aSnapshotAtACommitBeforeTheLast();
        aSnapshotOneAboveTheCommit();
        anEntryOfThatTermBeforeOthers();
        anEntryOfThatTermAtTheLast();
        anEntryOfThatTermBehindOthers();
        anEntryOfThatTermBelowTheLeadersCommit();
        anEntryOfAnotherTermBeforeOthers();
        anEntryOfAnotherTermAtTheLast();
        noEntryInAnEmptyLog();
        noEntryInAShorterLog();
        aSnapshotForAFullLog();
        theBaseTermAndState();
        CHECKS.end();
    }

    /** Leader 0 of term 1 has committed entries 1 to 3 by node 1, and has them behind it. */
    private static QuorumLog compacted() {
        QuorumLog x = Runs.led(3, 4, 8, 0);
        for (int i = 1; i <= 4; i++) {
            x.propose(0, 10 * i);
        }
        for (int i = 0; i < 3; i++) {
            Runs.beat(x, 0, 1);
        }
        x.compact(0);
        return x;
    }

    private static void aSnapshotOfALesserTerm() {
        CHECKS.at("Terms: if the message's term is less than the node's: 4, no, and 0");
        QuorumLog x = compacted();
        x.heartbeat(0, 2);
        x.timeout(2);
        CHECKS.due("deliver", x.deliver(0), 5);
        CHECKS.due("the role stays", x.role(2), 5);
        CHECKS.due("the base stays", x.base(2), 0);
        CHECKS.due("the commit stays", x.commit(2), 0);
        CHECKS.due("the answer bears its term", x.slot(0), Runs.message(4, 2, 0, 2));
    }

    /** Leader 0 of term 2 gets the answer to a SNAPSHOT that it sent in term 1. */
    private static void aNoReachesALeader() {
        CHECKS.at("Terms: if the message's term is less than the node's: 4, no, and 0");
        QuorumLog x = compacted();
        x.heartbeat(0, 2);
        Runs.bounce(x, 0);
        x.timeout(0);
        x.deliver(2);
        x.deliver(2);
        CHECKS.due("leader of term 2", x.peer(0, 2), Runs.nextAndMatch(5, 0));
        x.deliver(0);
        CHECKS.due("nothing came", x.base(2), 0);
        x.deliver(0);
        CHECKS.due("no", x.peer(0, 2), Runs.nextAndMatch(4, 0));
    }

    /** Node 2 stands in term 1, and so does node 0, which leads by node 1's vote. */
    private static QuorumLog rivals() {
        QuorumLog x = new QuorumLog(3, 4, 8);
        x.timeout(2);
        Runs.dropAll(x);
        Runs.electBy(x, 0, 1);
        x.propose(0, 5);
        Runs.beat(x, 0, 1);
        x.compact(0);
        return x;
    }

    private static void aSnapshotToACandidateOfItsTerm() {
        CHECKS.at("Terms: Otherwise its role is follower");
        QuorumLog x = rivals();
        CHECKS.due("a candidate", x.role(2), 5);
        CHECKS.due("a SNAPSHOT", x.heartbeat(0, 2), 5);
        x.deliver(0);
        CHECKS.due("a follower", x.role(2), 4);
        CHECKS.due("the vote stays", x.vote(2), 2);
        CHECKS.due("the term stays", x.term(2), 1);
        CHECKS.due("it came", x.base(2), 1);
    }

    /**
     * Node 2 has committed entry 1 in term 1 and stands in term 2, and so does node 0, which leads
     * again. Node 2 refuses the SNAPSHOT of term 1, by which NEXT falls to the base, so that node 0
     * sends one of term 2, which brings nothing new.
     */
    private static void aSnapshotUpToTheCommitToACandidate() {
        CHECKS.at("Terms: Otherwise its role is follower");
        QuorumLog x = lateSnapshot();
        x.timeout(2);
        x.drop(0);
        x.drop(2);
        Runs.bounce(x, 0);
        x.timeout(0);
        x.drop(2);
        x.deliver(0);
        x.deliver(0);
        CHECKS.due("leader of term 2", x.peer(0, 2), Runs.nextAndMatch(2, 0));
        x.deliver(1);
        x.deliver(0);
        CHECKS.due("NEXT is the base", x.peer(0, 2), Runs.nextAndMatch(1, 0));
        CHECKS.due("a SNAPSHOT", x.heartbeat(0, 2), 5);
        CHECKS.due("a candidate", x.role(2), 5);
        CHECKS.due("of term 2", x.term(2), 2);
        x.deliver(0);
        CHECKS.due("a follower", x.role(2), 4);
        CHECKS.due("the vote stays", x.vote(2), 2);
        CHECKS.due("the base stays", x.base(2), 0);
        x.deliver(0);
        CHECKS.due("yes, and 1", x.peer(0, 2), Runs.nextAndMatch(2, 1));
    }

    /**
     * A SNAPSHOT of 1 waits in slot 1. Node 2, to which it goes, has got entry 1 and the commit 1 by
     * an APPEND of before, and leader 0 knows that.
     */
    private static QuorumLog lateSnapshot() {
        QuorumLog x = Runs.led(3, 4, 8, 0);
        x.propose(0, 10);
        Runs.beat(x, 0, 1);
        x.heartbeat(0, 2);
        x.compact(0);
        x.heartbeat(0, 2);
        x.deliver(0);
        x.deliver(0);
        return x;
    }

    private static void aSnapshotBelowTheCommit() {
        CHECKS.at("Terms: if b is not greater than its commit: yes, and its commit");
        QuorumLog x = lateSnapshot();
        x.propose(0, 20);
        Runs.beatSlot(x, 0, 1, 0);
        x.heartbeat(0, 2);
        x.deliver(0);
        x.drop(0);
        CHECKS.due("the commit is 2", x.commit(2), 2);
        CHECKS.due("the leader knows of 1", x.peer(0, 2), Runs.nextAndMatch(2, 1));
        CHECKS.due("b is 1", x.deliver(1), 5);
        CHECKS.due("the base stays", x.base(2), 0);
        CHECKS.due("the commit stays", x.commit(2), 2);
        CHECKS.due("entry 1 stays", x.commandAt(2, 1), 10);
        CHECKS.due("entry 2 stays", x.commandAt(2, 2), 20);
        x.deliver(0);
        CHECKS.due("yes, and 2", x.peer(0, 2), Runs.nextAndMatch(3, 2));
    }

    private static void aSnapshotAtTheCommit() {
        CHECKS.at("Terms: if b is not greater than its commit: yes, and its commit");
        QuorumLog x = lateSnapshot();
        CHECKS.due("the commit is 1", x.commit(2), 1);
        CHECKS.due("b is 1", x.deliver(1), 5);
        CHECKS.due("the base stays", x.base(2), 0);
        CHECKS.due("entry 1 stays", x.commandAt(2, 1), 10);
        CHECKS.due("the answer", x.slot(0), Runs.message(4, 2, 0, 1));
        x.deliver(0);
        CHECKS.due("yes, and 1", x.peer(0, 2), Runs.nextAndMatch(2, 1));
        QuorumLog y = compacted();
        y.heartbeat(0, 2);
        y.duplicate(0);
        y.deliver(0);
        y.drop(0);
        CHECKS.due("a copy, where b is the base, too", y.deliver(1), 5);
        CHECKS.due("the base stays", y.base(2), 3);
        y.deliver(0);
        CHECKS.due("yes, and 3", y.peer(0, 2), Runs.nextAndMatch(4, 3));
    }

    private static void aSnapshotAtACommitBeforeTheLast() {
        CHECKS.at("Terms: if b is not greater than its commit: yes, and its commit");
        QuorumLog x = lateSnapshot();
        x.propose(0, 20);
        x.heartbeat(0, 2);
        x.deliver(0);
        x.drop(0);
        CHECKS.due("the last is 2", x.last(2), 2);
        CHECKS.due("the commit is 1", x.commit(2), 1);
        CHECKS.due("b is 1", x.deliver(1), 5);
        CHECKS.due("the last stays", x.last(2), 2);
        x.deliver(0);
        CHECKS.due("yes, and 1, not 2", x.peer(0, 2), Runs.nextAndMatch(2, 1));
        CHECKS.due("the leader's commit", x.commit(0), 1);
    }

    private static void aSnapshotOneAboveTheCommit() {
        CHECKS.at("Terms: if b is not greater than its commit");
        QuorumLog x = lateSnapshot();
        Runs.bounce(x, 2);
        CHECKS.due("the commit is 0", x.commit(2), 0);
        CHECKS.due("b is 1", x.deliver(1), 5);
        CHECKS.due("the base", x.base(2), 1);
        CHECKS.due("the commit", x.commit(2), 1);
        CHECKS.due("the state", x.state(2), 10);
    }

    private static void anEntryOfThatTermBeforeOthers() {
        CHECKS.at("Terms: if it has an entry b with that term, the entries up to b go");
        QuorumLog x = lateSnapshot();
        x.propose(0, 20);
        x.propose(0, 30);
        Runs.beatSlot(x, 0, 2, 0);
        Runs.beatSlot(x, 0, 2, 0);
        Runs.bounce(x, 2);
        x.deliver(1);
        CHECKS.due("the base", x.base(2), 1);
        CHECKS.due("entry 1 went", x.commandAt(2, 1), 0);
        CHECKS.due("entry 2 stays", x.commandAt(2, 2), 20);
        CHECKS.due("its term", x.termAt(2, 2), 1);
        CHECKS.due("entry 3 stays", x.commandAt(2, 3), 30);
        CHECKS.due("the last stays", x.last(2), 3);
        CHECKS.due("the commit is b", x.commit(2), 1);
    }

    private static void anEntryOfThatTermAtTheLast() {
        CHECKS.at("Terms: if it has an entry b with that term, the entries up to b go");
        QuorumLog x = lateSnapshot();
        Runs.bounce(x, 2);
        CHECKS.due("before", x.last(2), 1);
        x.deliver(1);
        CHECKS.due("entry 1 went", x.commandAt(2, 1), 0);
        CHECKS.due("none is left", x.last(2), 1);
        CHECKS.due("the term at the base", x.termAt(2, 1), 1);
    }

    /**
     * Leader 0 of term 2 has a base of 4 and entry 5; node 2 has the entries 1 to 5 and, after a crash,
     * knows of no commit. NEXT of it is 4, lowered by two APPENDs of term 1 that it refused.
     */
    private static QuorumLog fiveAndABaseOfFour() {
        QuorumLog x = Runs.led(3, 5, 8, 0);
        for (int i = 1; i <= 3; i++) {
            x.propose(0, 10 * i);
            Runs.beat(x, 0, 2);
        }
        x.heartbeat(0, 2);
        Runs.bounce(x, 0);
        x.timeout(0);
        x.deliver(1);
        x.deliver(1);
        x.drop(2);
        x.propose(0, 40);
        Runs.beatSlot(x, 0, 2, 1);
        x.compact(0);
        x.propose(0, 50);
        Runs.beatSlot(x, 0, 2, 1);
        x.duplicate(0);
        for (int slot = 0; slot < 2; slot++) {
            x.deliver(slot);
            x.deliver(0);
        }
        Runs.bounce(x, 2);
        return x;
    }

    private static void anEntryOfThatTermBehindOthers() {
        CHECKS.at("Terms: if it has an entry b with that term, the entries up to b go");
        QuorumLog x = fiveAndABaseOfFour();
        CHECKS.due("the base of the leader", x.base(0), 4);
        CHECKS.due("the commit of node 2", x.commit(2), 0);
        CHECKS.due("its last", x.last(2), 5);
        CHECKS.due("NEXT", x.peer(0, 2), Runs.nextAndMatch(4, 5));
        CHECKS.due("a SNAPSHOT", x.heartbeat(0, 2), 5);
        x.deliver(0);
        CHECKS.due("the base", x.base(2), 4);
        CHECKS.due("its term", x.termAt(2, 4), 2);
        CHECKS.due("four went", x.termAt(2, 3), QuorumLog.BAD);
        CHECKS.due("no entry 4", x.commandAt(2, 4), 0);
        CHECKS.due("entry 5 stays", x.commandAt(2, 5), 50);
        CHECKS.due("its term", x.termAt(2, 5), 2);
        CHECKS.due("the last stays", x.last(2), 5);
        CHECKS.due("the state", x.state(2), ((10 * 31 + 20) * 31 + 30) * 31 + 40);
    }

    /** The same when the leader has committed more than node 2 has: that does not matter here. */
    private static void anEntryOfThatTermBelowTheLeadersCommit() {
        CHECKS.at("Terms: if it has an entry b with that term, the entries up to b go");
        QuorumLog x = fiveAndABaseOfFour();
        x.propose(0, 60);
        for (int i = 0; i < 10 && x.commit(0) < 6; i++) {
            Runs.beat(x, 0, 1);
        }
        Runs.beat(x, 0, 1);
        CHECKS.due("the leader's commit", x.commit(0), 6);
        CHECKS.due("the last of node 2", x.last(2), 5);
        CHECKS.due("a SNAPSHOT of 4", x.heartbeat(0, 2), 5);
        x.deliver(0);
        CHECKS.due("the base", x.base(2), 4);
        CHECKS.due("the commit", x.commit(2), 4);
        CHECKS.due("entry 5 stays", x.commandAt(2, 5), 50);
        CHECKS.due("the last stays", x.last(2), 5);
    }

    /** Node 0 has so many entries of term 1; node 1 leads term 2 with a base of 1. */
    private static QuorumLog differing(int entries) {
        QuorumLog x = Runs.led(3, 4, 8, 0);
        for (int i = 1; i <= entries; i++) {
            x.propose(0, 90 + i);
        }
        Runs.electBy(x, 1, 2);
        x.propose(1, 7);
        Runs.beat(x, 1, 2);
        x.compact(1);
        x.heartbeat(1, 0);
        return x;
    }

    private static void clearedDownToOne(QuorumLog x) {
        CHECKS.due("deliver", x.deliver(0), 5);
        CHECKS.due("the base", x.base(0), 1);
        CHECKS.due("all went", x.last(0), 1);
        CHECKS.due("no entry 1", x.commandAt(0, 1), 0);
        CHECKS.due("no entry 2", x.commandAt(0, 2), 0);
        CHECKS.due("no term at 2", x.termAt(0, 2), QuorumLog.BAD);
        CHECKS.due("the term at the base", x.termAt(0, 1), 2);
        CHECKS.due("the state", x.state(0), 7);
        CHECKS.due("the commit", x.commit(0), 1);
        x.deliver(0);
        CHECKS.due("yes, and 1", x.peer(1, 0), Runs.nextAndMatch(2, 1));
    }

    private static void anEntryOfAnotherTermBeforeOthers() {
        CHECKS.at("Terms: otherwise all");
        clearedDownToOne(differing(3));
    }

    private static void anEntryOfAnotherTermAtTheLast() {
        CHECKS.at("Terms: otherwise all");
        clearedDownToOne(differing(1));
    }

    private static void noEntryInAnEmptyLog() {
        CHECKS.at("Terms: otherwise all");
        clearedDownToOne(differing(0));
    }

    private static void noEntryInAShorterLog() {
        CHECKS.at("Terms: otherwise all");
        QuorumLog x = Runs.led(3, 4, 8, 0);
        for (int i = 1; i <= 3; i++) {
            x.propose(0, 10 * i);
        }
        x.heartbeat(0, 2);
        x.deliver(0);
        x.drop(0);
        CHECKS.due("node 2 has entry 1", x.last(2), 1);
        for (int i = 0; i < 3; i++) {
            Runs.beat(x, 0, 1);
        }
        x.compact(0);
        CHECKS.due("a SNAPSHOT of 3", x.heartbeat(0, 2), 5);
        x.deliver(0);
        CHECKS.due("the base", x.base(2), 3);
        CHECKS.due("the last", x.last(2), 3);
        CHECKS.due("no entry 1", x.commandAt(2, 1), 0);
        CHECKS.due("no entry 4", x.commandAt(2, 4), 0);
        x.deliver(0);
        CHECKS.due("yes, and 3", x.peer(0, 2), Runs.nextAndMatch(4, 3));
    }

    private static void aSnapshotForAFullLog() {
        CHECKS.at("Terms: A log is FULL with CAP entries");
        QuorumLog x = Runs.led(3, 1, 8, 0);
        x.propose(0, 1);
        x.heartbeat(0, 2);
        x.deliver(0);
        x.drop(0);
        CHECKS.due("node 2 is full", x.last(2), 1);
        for (int i = 2; i <= 3; i++) {
            Runs.beat(x, 0, 1);
            CHECKS.due("one is committed", x.compact(0), 1);
            Runs.beat(x, 0, 1);
            x.compact(1);
            x.propose(0, i);
        }
        CHECKS.due("a SNAPSHOT of 2", x.heartbeat(0, 2), 5);
        x.deliver(0);
        CHECKS.due("the base", x.base(2), 2);
        x.deliver(0);
        Runs.beat(x, 0, 2);
        CHECKS.due("there is room for entry 3", x.commandAt(2, 3), 3);
    }

    private static void theBaseTermAndState() {
        CHECKS.at("Terms: the base is b with that term and state; the commit is b. Yes, and b");
        QuorumLog x = compacted();
        CHECKS.due("a SNAPSHOT of 3", x.heartbeat(0, 2), 5);
        x.deliver(0);
        CHECKS.due("the base", x.base(2), 3);
        CHECKS.due("the term at it", x.termAt(2, 3), 1);
        CHECKS.due("the commit", x.commit(2), 3);
        CHECKS.due("the state", x.state(2), (10 * 31 + 20) * 31 + 30);
        CHECKS.due("the answer", x.slot(0), Runs.message(4, 2, 0, 1));
        x.deliver(0);
        CHECKS.due("yes, and 3", x.peer(0, 2), Runs.nextAndMatch(4, 3));
        Runs.bounce(x, 2);
        CHECKS.due("it is kept in a crash", x.state(2), (10 * 31 + 20) * 31 + 30);
    }
}
