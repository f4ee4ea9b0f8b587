/** Promises 3, 4, 16 to 20, and what an APPEND and an APPENDED do when delivered (promise 6). */
public final class ReplicationTest {
    private static final Checks CHECKS = new Checks("ReplicationTest");

    public static void main(String[] args) {
        proposePutsEntriesBehindTheLog();
        proposeIsRefusedInTheDocumentsOrder();
        heartbeatSendsTheEntryNext();
        heartbeatIsRefusedInTheDocumentsOrder();
        aMessageBearsWhatWasWhenItWasSent();
        anAppendWithoutEntryHasOnlyItsNumber();
        anAppendWithoutEntryLeavesWhatDiffers();
        anAppendOfAnOldTermIsRefused();
        anAppendEndsACandidacy();
        anAppendBehindTheLastIsRefused();
        anAppendWithAnotherTermIsRefused();
        entriesThatDifferAreTakenBack();
        takingBackDoesNotLiftTheCommit();
        anEntryOfTheSameTermStays();
        aFullLogTakesNoEntry();
        aFullLogTakesAnEntryInPlaceOfAnother();
        anAppendBelowTheBaseIsAnsweredWithTheBase();
        theBaseTellsANewLeaderWhatIsThere();
        theFollowersCommitIsTheLesser();
        aLesserCommitChangesNothing();
        nextGoesBackToOneAtLeast();
        matchNeverFalls();
        anAppendedOfAnotherTermIsNothing();
        commitNeedsMoreThanHalf();
        onlyTheLeadersOwnTermIsCounted();
        theGreatestNumberIsCommitted();
        readingsAtTheEdges();
        statesWrapAround();
        peerIsRefused();
        CHECKS.end();
    }

    private static void proposePutsEntriesBehindTheLog() {
        QuorumLog x = Runs.led(3, 3, 8, 1);
        int[] commands = {0, Integer.MIN_VALUE, Integer.MAX_VALUE};
        for (int i = 1; i <= 3; i++) {
            CHECKS.due("propose", x.propose(1, commands[i - 1]), i);
            CHECKS.due("last", x.last(1), i);
            CHECKS.due("its term", x.termAt(1, i), 1);
            CHECKS.due("its command", x.commandAt(1, i), commands[i - 1]);
        }
        CHECKS.due("nothing is committed", x.commit(1), 0);
        CHECKS.due("nothing is sent", x.pending(), 0);
        CHECKS.due("the others have none", x.last(0), 0);
        CHECKS.due("no room", x.propose(1, 4), QuorumLog.FULL);
        CHECKS.due("last stays", x.last(1), 3);
    }

    private static void proposeIsRefusedInTheDocumentsOrder() {
        QuorumLog x = Runs.led(3, 1, 8, 0);
        x.propose(0, 1);
        for (int odd : Runs.ODD_NUMBERS) {
            CHECKS.due("propose at " + odd, x.propose(odd, 1), QuorumLog.BAD);
        }
        CHECKS.due("propose behind the last node", x.propose(3, 1), QuorumLog.BAD);
        CHECKS.due("propose at a follower", x.propose(1, 1), QuorumLog.ROLE);
        x.timeout(1);
        CHECKS.due("propose at a candidate", x.propose(1, 1), QuorumLog.ROLE);
        CHECKS.due("propose at a leader that is full", x.propose(0, 1), QuorumLog.FULL);
        x.crash(0);
        CHECKS.due("propose at a node that is down", x.propose(0, 1), QuorumLog.DOWN);
        x.restart(0);
        CHECKS.due("propose at a full follower", x.propose(0, 1), QuorumLog.ROLE);
        CHECKS.due("last of a refused one", x.last(1), 0);
    }

    private static void heartbeatSendsTheEntryNext() {
        QuorumLog x = Runs.led(3, 4, 8, 0);
        x.propose(0, 11);
        x.propose(0, 22);
        CHECKS.due("heartbeat", x.heartbeat(0, 2), 3);
        CHECKS.due("the APPEND", x.slot(0), Runs.message(3, 0, 2, 1));
        CHECKS.due("deliver", x.deliver(0), 3);
        CHECKS.due("one entry came", x.last(2), 1);
        CHECKS.due("its command", x.commandAt(2, 1), 11);
        CHECKS.due("its term", x.termAt(2, 1), 1);
        CHECKS.due("the APPENDED", x.slot(0), Runs.message(4, 2, 0, 1));
        CHECKS.due("the leader does not know yet", x.peer(0, 2), Runs.nextAndMatch(1, 0));
        CHECKS.due("deliver", x.deliver(0), 4);
        CHECKS.due("now it does", x.peer(0, 2), Runs.nextAndMatch(2, 1));
        CHECKS.due("the other peer's stay", x.peer(0, 1), Runs.nextAndMatch(1, 0));
        CHECKS.due("no answer to an answer", x.pending(), 0);
        Runs.beat(x, 0, 2);
        CHECKS.due("the next entry came", x.commandAt(2, 2), 22);
        CHECKS.due("heartbeat with nothing to send", x.heartbeat(0, 2), 3);
        Runs.settle(x);
        CHECKS.due("nothing came", x.last(2), 2);
        CHECKS.due("peer", x.peer(0, 2), Runs.nextAndMatch(3, 2));
    }

    private static void heartbeatIsRefusedInTheDocumentsOrder() {
        QuorumLog x = Runs.led(3, 4, 8, 0);
        for (int odd : Runs.ODD_NUMBERS) {
            CHECKS.due("heartbeat from " + odd, x.heartbeat(odd, 1), QuorumLog.BAD);
            CHECKS.due("heartbeat to " + odd, x.heartbeat(0, odd), QuorumLog.BAD);
        }
        CHECKS.due("heartbeat from behind the last node", x.heartbeat(3, 1), QuorumLog.BAD);
        CHECKS.due("heartbeat to behind the last node", x.heartbeat(0, 3), QuorumLog.BAD);
        CHECKS.due("heartbeat to itself", x.heartbeat(0, 0), QuorumLog.BAD);
        CHECKS.due("heartbeat from a follower", x.heartbeat(1, 0), QuorumLog.ROLE);
        x.crash(2);
        CHECKS.due("heartbeat to a node that is down", x.heartbeat(0, 2), 3);
        CHECKS.due("from that node to itself", x.heartbeat(2, 2), QuorumLog.BAD);
        CHECKS.due("from that node", x.heartbeat(2, 0), QuorumLog.DOWN);
        for (int i = 1; i < 8; i++) {
            CHECKS.due("heartbeat " + i, x.heartbeat(0, 1), 3);
        }
        CHECKS.due("no room", x.heartbeat(0, 1), QuorumLog.FULL);
        CHECKS.due("a follower, no room", x.heartbeat(1, 0), QuorumLog.ROLE);
        CHECKS.due("down, no room", x.heartbeat(2, 0), QuorumLog.DOWN);
        CHECKS.due("itself, no room", x.heartbeat(0, 0), QuorumLog.BAD);
        CHECKS.due("pending", x.pending(), 8);
        x.drop(6);
        x.timeout(1);
        CHECKS.due("no room for a timeout", x.role(1), 4);
        x.drop(5);
        x.timeout(1);
        CHECKS.due("heartbeat from a candidate", x.heartbeat(1, 0), QuorumLog.ROLE);
    }

    private static void aMessageBearsWhatWasWhenItWasSent() {
        QuorumLog x = Runs.led(3, 4, 8, 0);
        CHECKS.due("an APPEND without entry", x.heartbeat(0, 1), 3);
        x.propose(0, 5);
        CHECKS.due("an APPEND with entry 1 and commit 0", x.heartbeat(0, 1), 3);
        Runs.beatSlot(x, 0, 2, 2);
        CHECKS.due("entry 1 is committed now", x.commit(0), 1);
        x.deliver(0);
        CHECKS.due("the first has none yet", x.last(1), 0);
        x.deliver(1);
        CHECKS.due("the second has it", x.last(1), 1);
        CHECKS.due("but not the commit", x.commit(1), 0);
        Runs.dropAll(x);
        x.heartbeat(0, 1);
        x.crash(0);
        x.deliver(0);
        CHECKS.due("it is delivered though its sender is down", x.commit(1), 1);
    }

    private static void anAppendWithoutEntryHasOnlyItsNumber() {
        QuorumLog x = Runs.led(3, 4, 8, 0);
        x.heartbeat(0, 1);
        x.propose(0, 5);
        x.heartbeat(0, 1);
        x.deliver(1);
        CHECKS.due("node 1 has entry 1", x.last(1), 1);
        x.drop(1);
        CHECKS.due("deliver the first, without entry", x.deliver(0), 3);
        CHECKS.due("nothing goes", x.last(1), 1);
        CHECKS.due("deliver its answer", x.deliver(0), 4);
        CHECKS.due("yes, and 0", x.peer(0, 1), Runs.nextAndMatch(1, 0));
    }

    /** Node 0 has an entry that the new leader does not know: it must not be counted. */
    private static void anAppendWithoutEntryLeavesWhatDiffers() {
        QuorumLog x = Runs.led(3, 4, 8, 0);
        x.propose(0, 5);
        Runs.electBy(x, 2, 1);
        CHECKS.due("elected by the other empty log", x.role(2), 6);
        x.heartbeat(2, 0);
        x.deliver(0);
        CHECKS.due("entry 1 of term 1 stays", x.last(0), 1);
        CHECKS.due("the answer", x.deliver(0), 4);
        CHECKS.due("yes, and 0", x.peer(2, 0), Runs.nextAndMatch(1, 0));
    }

    private static void anAppendOfAnOldTermIsRefused() {
        QuorumLog x = Runs.led(3, 4, 8, 0);
        x.propose(0, 5);
        x.heartbeat(0, 1);
        x.timeout(1);
        CHECKS.due("deliver", x.deliver(0), 3);
        CHECKS.due("nothing came", x.last(1), 0);
        CHECKS.due("still a candidate", x.role(1), 5);
        CHECKS.due("the answer bears the greater term", x.slot(0), Runs.message(4, 1, 0, 2));
        CHECKS.due("deliver it", x.deliver(0), 4);
        CHECKS.due("the leader is a follower", x.role(0), 4);
        CHECKS.due("of that term", x.term(0), 2);
        CHECKS.due("with no vote", x.vote(0), QuorumLog.BAD);
    }

    private static void anAppendEndsACandidacy() {
        QuorumLog x = new QuorumLog(3, 4, 8);
        x.timeout(1);
        x.timeout(0);
        x.deliver(3);
        x.deliver(3);
        CHECKS.due("node 0 leads term 1", x.role(0), 6);
        CHECKS.due("node 1 is a candidate of term 1", x.role(1), 5);
        Runs.dropAll(x);
        x.heartbeat(0, 1);
        x.deliver(0);
        CHECKS.due("a follower now", x.role(1), 4);
        CHECKS.due("the term stays", x.term(1), 1);
        CHECKS.due("the vote stays", x.vote(1), 1);
        x.deliver(0);
        x.crash(2);
        x.restart(2);
        CHECKS.due("it said yes", x.peer(0, 1), Runs.nextAndMatch(1, 0));
    }

    /** Leader 0 of term 3 has entries 1 and 2 of term 1 and begins with NEXT 3; node 1 has none. */
    private static QuorumLog aheadOfNodeOne() {
        QuorumLog x = Runs.led(3, 4, 8, 0);
        x.propose(0, 5);
        x.propose(0, 6);
        Runs.elect(x, 1);
        Runs.elect(x, 0);
        return x;
    }

    private static void anAppendBehindTheLastIsRefused() {
        QuorumLog x = aheadOfNodeOne();
        CHECKS.due("elected again", x.role(0), 6);
        CHECKS.due("NEXT is behind the log", x.peer(0, 1), Runs.nextAndMatch(3, 0));
        x.heartbeat(0, 1);
        CHECKS.due("deliver", x.deliver(0), 3);
        CHECKS.due("nothing came", x.last(1), 0);
        CHECKS.due("deliver the answer", x.deliver(0), 4);
        CHECKS.due("it was no", x.peer(0, 1), Runs.nextAndMatch(2, 0));
        Runs.beat(x, 0, 1);
        CHECKS.due("no again", x.peer(0, 1), Runs.nextAndMatch(1, 0));
        Runs.beat(x, 0, 1);
        CHECKS.due("yes", x.peer(0, 1), Runs.nextAndMatch(2, 1));
        CHECKS.due("the entry keeps its term", x.termAt(1, 1), 1);
    }

    /** Node 0 has entries 1 to 3 of term 1; leader 1 of term 2 has entries 1 to 3 of term 2. */
    private static QuorumLog differing() {
        QuorumLog x = Runs.led(3, 4, 40, 0);
        x.propose(0, 11);
        x.propose(0, 12);
        x.propose(0, 13);
        Runs.electBy(x, 1, 2);
        x.propose(1, 21);
        x.propose(1, 22);
        x.propose(1, 23);
        return x;
    }

    private static void anAppendWithAnotherTermIsRefused() {
        QuorumLog x = differing();
        Runs.elect(x, 1);
        CHECKS.due("a leader may not stand", x.term(1), 2);
        x.crash(1);
        x.restart(1);
        Runs.electBy(x, 1, 2);
        CHECKS.due("leader of term 3", x.role(1), 6);
        CHECKS.due("NEXT", x.peer(1, 0), Runs.nextAndMatch(4, 0));
        Runs.beat(x, 1, 0);
        CHECKS.due("another term at 3: no", x.peer(1, 0), Runs.nextAndMatch(3, 0));
        CHECKS.due("nothing goes by a no", x.last(0), 3);
        CHECKS.due("commit stays", x.commit(0), 0);
        Runs.beat(x, 1, 0);
        Runs.beat(x, 1, 0);
        CHECKS.due("down to 1", x.peer(1, 0), Runs.nextAndMatch(1, 0));
        CHECKS.due("still nothing went", x.commandAt(0, 1), 11);
        Runs.beat(x, 1, 0);
        CHECKS.due("yes at 0", x.peer(1, 0), Runs.nextAndMatch(2, 1));
        CHECKS.due("the entry is the leader's", x.commandAt(0, 1), 21);
    }

    private static void entriesThatDifferAreTakenBack() {
        QuorumLog x = differing();
        CHECKS.due("NEXT of a leader that began empty", x.peer(1, 0), Runs.nextAndMatch(1, 0));
        x.heartbeat(1, 0);
        CHECKS.due("deliver entry 1 of term 2", x.deliver(0), 3);
        CHECKS.due("all behind it went", x.last(0), 1);
        CHECKS.due("it came in their place", x.termAt(0, 1), 2);
        CHECKS.due("its command", x.commandAt(0, 1), 21);
        CHECKS.due("no entry 2", x.commandAt(0, 2), 0);
        x.deliver(0);
        CHECKS.due("two of three have it", x.commit(1), 1);
        Runs.beat(x, 1, 0);
        Runs.beat(x, 1, 0);
        CHECKS.due("all three are there", x.commandAt(0, 3), 23);
        CHECKS.due("all three are committed", x.commit(1), 3);
    }

    /** Node 0 lost its commit by a crash; taking entries back must not lift it. */
    private static void takingBackDoesNotLiftTheCommit() {
        QuorumLog x = Runs.led(3, 4, 8, 0);
        x.propose(0, 11);
        Runs.beat(x, 0, 1);
        Runs.beat(x, 0, 2);
        x.propose(0, 12);
        x.propose(0, 13);
        Runs.electBy(x, 1, 2);
        x.propose(1, 22);
        x.crash(0);
        x.restart(0);
        CHECKS.due("the new leader knows of no commit", x.commit(1), 0);
        x.heartbeat(1, 0);
        CHECKS.due("deliver entry 2 of term 2", x.deliver(0), 3);
        CHECKS.due("entry 1 stays", x.commandAt(0, 1), 11);
        CHECKS.due("its term", x.termAt(0, 1), 1);
        CHECKS.due("entry 2 is another", x.commandAt(0, 2), 22);
        CHECKS.due("entry 3 went", x.last(0), 2);
        CHECKS.due("commit", x.commit(0), 0);
        x.deliver(0);
        CHECKS.due("the leader's commit", x.commit(1), 2);
    }

    private static void anEntryOfTheSameTermStays() {
        QuorumLog x = Runs.led(3, 4, 8, 0);
        x.propose(0, 5);
        x.heartbeat(0, 1);
        CHECKS.due("a copy", x.duplicate(0), 1);
        x.deliver(0);
        x.deliver(0);
        x.propose(0, 6);
        Runs.beatSlot(x, 0, 1, 0);
        CHECKS.due("two entries", x.last(1), 2);
        CHECKS.due("the copy of the first comes late", x.deliver(1), 3);
        CHECKS.due("the second stays", x.last(1), 2);
        CHECKS.due("its command", x.commandAt(1, 2), 6);
        CHECKS.due("the answer", x.deliver(0), 4);
        CHECKS.due("MATCH does not fall", x.peer(0, 1), Runs.nextAndMatch(3, 2));
    }

    private static void aFullLogTakesNoEntry() {
        QuorumLog x = Runs.led(3, 2, 8, 0);
        x.propose(0, 1);
        x.propose(0, 2);
        Runs.beat(x, 0, 1);
        Runs.beat(x, 0, 1);
        CHECKS.due("committed", x.commit(0), 2);
        x.compact(0);
        CHECKS.due("room again", x.propose(0, 3), 3);
        CHECKS.due("an APPEND with entry 3", x.heartbeat(0, 1), 3);
        CHECKS.due("deliver", x.deliver(0), 3);
        CHECKS.due("node 1 was full", x.last(1), 2);
        CHECKS.due("but heard of the commit", x.commit(1), 2);
        x.deliver(0);
        CHECKS.due("yes, and 2", x.peer(0, 1), Runs.nextAndMatch(3, 2));
        CHECKS.due("entry 3 is not committed", x.commit(0), 2);
        CHECKS.due("compact", x.compact(1), 2);
        Runs.beat(x, 0, 1);
        CHECKS.due("now it has 3", x.peer(0, 1), Runs.nextAndMatch(4, 3));
        CHECKS.due("committed", x.commit(0), 3);
    }

    private static void aFullLogTakesAnEntryInPlaceOfAnother() {
        QuorumLog x = Runs.led(3, 1, 8, 0);
        x.propose(0, 11);
        Runs.electBy(x, 1, 2);
        x.propose(1, 21);
        Runs.beat(x, 1, 0);
        CHECKS.due("last", x.last(0), 1);
        CHECKS.due("the other entry", x.commandAt(0, 1), 21);
        CHECKS.due("its term", x.termAt(0, 1), 2);
        CHECKS.due("yes, and 1", x.peer(1, 0), Runs.nextAndMatch(2, 1));
    }

    private static void anAppendBelowTheBaseIsAnsweredWithTheBase() {
        QuorumLog x = Runs.led(3, 4, 8, 0);
        x.propose(0, 1);
        x.propose(0, 2);
        x.heartbeat(0, 1);
        x.duplicate(0);
        x.deliver(0);
        x.deliver(0);
        Runs.beatSlot(x, 0, 1, 0);
        Runs.beatSlot(x, 0, 1, 0);
        CHECKS.due("compact", x.compact(1), 2);
        x.drop(0);
        CHECKS.due("the copy, with p 0", x.deliver(1), 3);
        CHECKS.due("base stays", x.base(1), 2);
        CHECKS.due("last stays", x.last(1), 2);
        CHECKS.due("commit stays", x.commit(1), 2);
        CHECKS.due("its answer", x.deliver(0), 4);
        CHECKS.due("yes, and 2", x.peer(0, 1), Runs.nextAndMatch(3, 2));
    }

    /** The new leader's NEXT falls by APPENDs of its own older term; the base alone lifts it. */
    private static void theBaseTellsANewLeaderWhatIsThere() {
        QuorumLog x = Runs.led(3, 4, 8, 2);
        x.propose(2, 1);
        x.propose(2, 2);
        for (int i = 0; i < 3; i++) {
            Runs.beat(x, 2, 1);
        }
        CHECKS.due("compact", x.compact(1), 2);
        x.heartbeat(2, 1);
        x.heartbeat(2, 1);
        x.crash(2);
        x.restart(2);
        x.timeout(2);
        x.deliver(2);
        x.deliver(2);
        x.deliver(3);
        x.deliver(2);
        CHECKS.due("NEXT in term 2", x.peer(2, 1), Runs.nextAndMatch(3, 0));
        x.deliver(0);
        CHECKS.due("the answer bears term 2", x.slot(0), Runs.message(4, 1, 2, 2));
        x.deliver(0);
        x.deliver(1);
        x.deliver(0);
        CHECKS.due("two APPENDs of term 1 were refused", x.peer(2, 1), Runs.nextAndMatch(1, 0));
        Runs.beat(x, 2, 1);
        CHECKS.due("p 0 is below the base: yes, and 2", x.peer(2, 1), Runs.nextAndMatch(3, 2));
        CHECKS.due("of an older term: not committed", x.commit(2), 0);
        CHECKS.due("base stays", x.base(1), 2);
    }

    private static void theFollowersCommitIsTheLesser() {
        QuorumLog x = Runs.led(3, 4, 8, 0);
        x.propose(0, 1);
        x.propose(0, 2);
        x.propose(0, 3);
        Runs.beat(x, 0, 1);
        Runs.beat(x, 0, 1);
        CHECKS.due("the leader's commit", x.commit(0), 2);
        CHECKS.due("the follower's", x.commit(1), 1);
        Runs.beat(x, 0, 2);
        CHECKS.due("what it has is less", x.commit(2), 1);
        x.heartbeat(0, 1);
        x.deliver(0);
        CHECKS.due("the leader's commit is less", x.commit(1), 2);
        CHECKS.due("than what it has", x.last(1), 3);
        CHECKS.due("its state", x.state(1), 33);
        x.drop(0);
        Runs.beat(x, 0, 1);
        Runs.beat(x, 0, 1);
        CHECKS.due("both have 3", x.commit(1), 3);
    }

    private static void aLesserCommitChangesNothing() {
        QuorumLog x = Runs.led(3, 4, 8, 0);
        x.propose(0, 1);
        x.heartbeat(0, 1);
        x.duplicate(0);
        x.deliver(0);
        x.deliver(0);
        Runs.beatSlot(x, 0, 1, 0);
        CHECKS.due("commit", x.commit(1), 1);
        x.deliver(1);
        CHECKS.due("an older APPEND bears 0", x.commit(1), 1);
    }

    private static void nextGoesBackToOneAtLeast() {
        QuorumLog x = aheadOfNodeOne();
        x.heartbeat(0, 1);
        for (int i = 1; i < 4; i++) {
            x.duplicate(0);
        }
        int[] next = {2, 1, 1, 1};
        for (int i = 0; i < 4; i++) {
            CHECKS.due("deliver an APPEND", x.deliver(i), 3);
            CHECKS.due("deliver its no", x.deliver(0), 4);
            CHECKS.due("NEXT", x.peer(0, 1), Runs.nextAndMatch(next[i], 0));
        }
    }

    private static void matchNeverFalls() {
        QuorumLog x = aheadOfNodeOne();
        x.heartbeat(0, 1);
        CHECKS.due("the no is held back", x.deliver(0), 3);
        x.duplicate(0);
        x.deliver(1);
        Runs.beatSlot(x, 0, 1, 1);
        Runs.beatSlot(x, 0, 1, 1);
        CHECKS.due("node 1 has entry 1", x.peer(0, 1), Runs.nextAndMatch(2, 1));
        CHECKS.due("deliver the old no", x.deliver(0), 4);
        CHECKS.due("NEXT is 1 less, MATCH stays", x.peer(0, 1), Runs.nextAndMatch(1, 1));
        x.heartbeat(0, 1);
        x.deliver(0);
        x.deliver(0);
        CHECKS.due("yes: NEXT is MATCH + 1", x.peer(0, 1), Runs.nextAndMatch(2, 1));
    }

    private static void anAppendedOfAnotherTermIsNothing() {
        QuorumLog x = Runs.led(3, 4, 8, 0);
        x.propose(0, 5);
        x.heartbeat(0, 1);
        x.deliver(0);
        CHECKS.due("a yes of term 1 waits", x.slot(0), Runs.message(4, 1, 0, 1));
        x.crash(0);
        x.restart(0);
        x.timeout(0);
        x.deliver(2);
        x.deliver(2);
        CHECKS.due("leader of term 2", x.role(0), 6);
        CHECKS.due("deliver it", x.deliver(0), 4);
        CHECKS.due("peer stays", x.peer(0, 1), Runs.nextAndMatch(2, 0));
        QuorumLog y = Runs.led(3, 4, 8, 0);
        y.propose(0, 5);
        y.heartbeat(0, 1);
        y.deliver(0);
        y.crash(0);
        y.restart(0);
        CHECKS.due("deliver it to a follower of its term", y.deliver(0), 4);
        CHECKS.due("nothing is committed", y.commit(0), 0);
    }

    private static void commitNeedsMoreThanHalf() {
        int[][] cases = {{3, 1}, {4, 2}, {5, 2}};
        for (int[] c : cases) {
            QuorumLog x = Runs.led(c[0], 4, 8, 0);
            x.propose(0, 5);
            for (int peer = 1; peer <= c[1]; peer++) {
                CHECKS.due("before peer " + peer + " of " + c[0], x.commit(0), 0);
                Runs.beat(x, 0, peer);
                CHECKS.due("MATCH", x.peer(0, peer), Runs.nextAndMatch(2, 1));
            }
            CHECKS.due("after peer " + c[1] + " of " + c[0], x.commit(0), 1);
            CHECKS.due("state", x.state(0), 5);
        }
    }

    private static void onlyTheLeadersOwnTermIsCounted() {
        QuorumLog x = aheadOfNodeOne();
        for (int i = 0; i < 4; i++) {
            Runs.beat(x, 0, 1);
        }
        CHECKS.due("node 1 has both", x.peer(0, 1), Runs.nextAndMatch(3, 2));
        CHECKS.due("of an older term: not committed", x.commit(0), 0);
        CHECKS.due("propose in its own term", x.propose(0, 7), 3);
        CHECKS.due("not by a propose", x.commit(0), 0);
        Runs.beat(x, 0, 1);
        CHECKS.due("with its own, all are", x.commit(0), 3);
        CHECKS.due("state", x.state(0), (5 * 31 + 6) * 31 + 7);
    }

    private static void theGreatestNumberIsCommitted() {
        QuorumLog x = Runs.led(5, 12, 40, 0);
        for (int i = 1; i <= 6; i++) {
            x.propose(0, i);
        }
        int[] have = {0, 5, 1, 4, 0};
        for (int peer = 1; peer < 5; peer++) {
            for (int i = 0; i < have[peer]; i++) {
                Runs.beat(x, 0, peer);
            }
        }
        CHECKS.due("three of five have 4", x.commit(0), 4);
        Runs.beat(x, 0, 4);
        CHECKS.due("a slow one does not lower it", x.commit(0), 4);
        Runs.beat(x, 0, 3);
        CHECKS.due("three of five have 5", x.commit(0), 5);
    }

    private static void readingsAtTheEdges() {
        QuorumLog x = Runs.led(3, 4, 8, 0);
        x.propose(0, 5);
        x.propose(0, 6);
        x.propose(0, 7);
        Runs.beat(x, 0, 1);
        x.compact(0);
        CHECKS.due("base", x.base(0), 1);
        CHECKS.due("term below the base", x.termAt(0, 0), QuorumLog.BAD);
        CHECKS.due("term at the base", x.termAt(0, 1), 1);
        CHECKS.due("term at the first entry", x.termAt(0, 2), 1);
        CHECKS.due("term at the last entry", x.termAt(0, 3), 1);
        CHECKS.due("term behind the last", x.termAt(0, 4), QuorumLog.BAD);
        CHECKS.due("command below the base", x.commandAt(0, 0), 0);
        CHECKS.due("command at the base", x.commandAt(0, 1), 0);
        CHECKS.due("command of the first entry", x.commandAt(0, 2), 6);
        CHECKS.due("command of the last entry", x.commandAt(0, 3), 7);
        CHECKS.due("command behind the last", x.commandAt(0, 4), 0);
        for (int odd : Runs.ODD_NUMBERS) {
            CHECKS.due("term at " + odd, x.termAt(0, odd), QuorumLog.BAD);
            CHECKS.due("command at " + odd, x.commandAt(0, odd), 0);
            CHECKS.due("term at node " + odd, x.termAt(odd, 1), QuorumLog.BAD);
            CHECKS.due("command at node " + odd, x.commandAt(odd, 2), 0);
            CHECKS.due("state of node " + odd, x.state(odd), 0);
            CHECKS.due("commit of node " + odd, x.commit(odd), QuorumLog.BAD);
            CHECKS.due("last of node " + odd, x.last(odd), QuorumLog.BAD);
            CHECKS.due("base of node " + odd, x.base(odd), QuorumLog.BAD);
            CHECKS.due("term of node " + odd, x.term(odd), QuorumLog.BAD);
            CHECKS.due("vote of node " + odd, x.vote(odd), QuorumLog.BAD);
            CHECKS.due("role of node " + odd, x.role(odd), QuorumLog.BAD);
        }
        readingsBehindTheLastNode(x);
    }

    private static void readingsBehindTheLastNode(QuorumLog x) {
        CHECKS.due("term at", x.termAt(3, 0), QuorumLog.BAD);
        CHECKS.due("command at", x.commandAt(3, 2), 0);
        CHECKS.due("state", x.state(3), 0);
        CHECKS.due("commit", x.commit(3), QuorumLog.BAD);
        CHECKS.due("last", x.last(3), QuorumLog.BAD);
        CHECKS.due("base", x.base(3), QuorumLog.BAD);
        CHECKS.due("term", x.term(3), QuorumLog.BAD);
        CHECKS.due("vote", x.vote(3), QuorumLog.BAD);
        CHECKS.due("role", x.role(3), QuorumLog.BAD);
    }

    private static void statesWrapAround() {
        QuorumLog x = Runs.led(3, 12, 8, 0);
        int[] commands = {Integer.MAX_VALUE, 3, Integer.MIN_VALUE, -1, 123456789};
        int state = 0;
        for (int i = 0; i < commands.length; i++) {
            x.propose(0, commands[i]);
            CHECKS.due("the state is that up to the commit, not the last", x.state(0), state);
            Runs.beat(x, 0, 2);
            state = state * 31 + commands[i];
            CHECKS.due("state after " + (i + 1), x.state(0), state);
        }
    }

    private static void peerIsRefused() {
        QuorumLog x = Runs.led(3, 4, 8, 0);
        for (int odd : Runs.ODD_NUMBERS) {
            CHECKS.due("peer of " + odd, x.peer(odd, 1), QuorumLog.BAD);
            CHECKS.due("peer " + odd, x.peer(0, odd), QuorumLog.BAD);
        }
        CHECKS.due("peer of behind the last node", x.peer(3, 1), QuorumLog.BAD);
        CHECKS.due("peer behind the last node", x.peer(0, 3), QuorumLog.BAD);
        CHECKS.due("peer of itself", x.peer(0, 0), QuorumLog.BAD);
        CHECKS.due("peer of a follower", x.peer(1, 0), QuorumLog.BAD);
        CHECKS.due("peer of a leader", x.peer(0, 2), Runs.nextAndMatch(1, 0));
        x.crash(2);
        CHECKS.due("a peer that is down", x.peer(0, 2), Runs.nextAndMatch(1, 0));
        x.timeout(1);
        CHECKS.due("peer of a candidate", x.peer(1, 0), QuorumLog.BAD);
        x.crash(0);
        CHECKS.due("peer of a leader that is down", x.peer(0, 1), QuorumLog.BAD);
        x.restart(0);
        CHECKS.due("peer of one that came back", x.peer(0, 1), QuorumLog.BAD);
    }
}
