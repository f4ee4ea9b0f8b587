/** Promises 2, 11, 12 and 13, and what an ASK and a VOTE do when they are delivered (promise 6). */
public final class ElectionTest {
    private static final Checks CHECKS = new Checks("ElectionTest");

    public static void main(String[] args) {
        timeoutMakesACandidateThatAsksAllOthers();
        asksTakeTheLowestFreeSlots();
        timeoutIsRefusedInTheDocumentsOrder();
        timeoutNeedsRoomForAllItsAsks();
        aCandidateStandsAgainWithOneVoter();
        aVoteIsGivenOnceInATerm();
        anAskOfAnOldTermIsRefused();
        aGreaterTermEndsEveryRole();
        anAskThatIsBehindIsRefused();
        aGreaterLastTermBeatsALongerLog();
        theBaseCountsAsTheLastNumber();
        leadersNeedMoreThanHalf();
        aVoteThatIsNotGrantedDoesNotCount();
        aVoteOfAnotherTermDoesNotCount();
        aLateVoteDoesNotMakeALeaderAnew();
        aCrashedCandidateDoesNotLead();
        CHECKS.end();
    }

    private static void timeoutMakesACandidateThatAsksAllOthers() {
        QuorumLog x = new QuorumLog(5, 4, 8);
        CHECKS.due("timeout", x.timeout(2), 0);
        CHECKS.due("role", x.role(2), 5);
        CHECKS.due("term", x.term(2), 1);
        CHECKS.due("vote", x.vote(2), 2);
        CHECKS.due("pending", x.pending(), 4);
        int[] others = {0, 1, 3, 4};
        for (int i = 0; i < 4; i++) {
            CHECKS.due("ASK to " + others[i], x.slot(i), Runs.message(1, 2, others[i], 1));
            CHECKS.due("role of another", x.role(others[i]), 4);
            CHECKS.due("term of another", x.term(others[i]), 0);
            CHECKS.due("vote of another", x.vote(others[i]), QuorumLog.BAD);
        }
    }

    private static void asksTakeTheLowestFreeSlots() {
        QuorumLog x = new QuorumLog(3, 4, 8);
        x.timeout(0);
        x.timeout(1);
        x.drop(1);
        CHECKS.due("timeout", x.timeout(2), 0);
        CHECKS.due("the gap is filled first", x.slot(1), Runs.message(1, 2, 0, 1));
        CHECKS.due("then the end", x.slot(4), Runs.message(1, 2, 1, 1));
        CHECKS.due("the others stay", x.slot(0), Runs.message(1, 0, 1, 1));
        CHECKS.due("the others stay", x.slot(2), Runs.message(1, 1, 0, 1));
        CHECKS.due("the others stay", x.slot(3), Runs.message(1, 1, 2, 1));
    }

    private static void timeoutIsRefusedInTheDocumentsOrder() {
        QuorumLog x = Runs.led(3, 4, 8, 0);
        for (int odd : Runs.ODD_NUMBERS) {
            CHECKS.due("timeout(" + odd + ")", x.timeout(odd), QuorumLog.BAD);
        }
        CHECKS.due("timeout behind the last node", x.timeout(3), QuorumLog.BAD);
        CHECKS.due("timeout of a leader", x.timeout(0), QuorumLog.ROLE);
        CHECKS.due("its term", x.term(0), 1);
        Runs.fill(x, 8);
        CHECKS.due("timeout of a leader, no room", x.timeout(0), QuorumLog.ROLE);
        CHECKS.due("timeout of a follower, no room", x.timeout(1), QuorumLog.FULL);
        x.crash(1);
        CHECKS.due("timeout of a node that is down, no room", x.timeout(1), QuorumLog.DOWN);
        CHECKS.due("timeout of no node, no room", x.timeout(3), QuorumLog.BAD);
    }

    private static void timeoutNeedsRoomForAllItsAsks() {
        for (int nodes = 3; nodes <= 5; nodes++) {
            QuorumLog x = Runs.led(nodes, 4, 8, 0);
            Runs.fill(x, 8 - nodes + 2);
            CHECKS.due("timeout with a slot too few", x.timeout(1), QuorumLog.FULL);
            CHECKS.due("role stays", x.role(1), 4);
            CHECKS.due("term stays", x.term(1), 1);
            CHECKS.due("vote stays", x.vote(1), 0);
            CHECKS.due("nothing was sent", x.pending(), 8 - nodes + 2);
            x.drop(0);
            CHECKS.due("timeout with just enough slots", x.timeout(1), 0);
            CHECKS.due("all slots are taken", x.pending(), 8);
        }
    }

    private static void aCandidateStandsAgainWithOneVoter() {
        QuorumLog x = new QuorumLog(5, 4, 40);
        x.timeout(0);
        x.deliver(0);
        x.deliver(0);
        CHECKS.due("two of five do not elect", x.role(0), 5);
        Runs.dropAll(x);
        CHECKS.due("timeout of a candidate", x.timeout(0), 0);
        CHECKS.due("the next term", x.term(0), 2);
        CHECKS.due("still a candidate", x.role(0), 5);
        CHECKS.due("voted for itself", x.vote(0), 0);
        CHECKS.due("ASK of the next term", x.slot(0), Runs.message(1, 0, 1, 2));
        x.deliver(1);
        x.deliver(1);
        CHECKS.due("the voter of the term before is gone", x.role(0), 5);
        x.deliver(2);
        x.deliver(1);
        CHECKS.due("a third voter elects", x.role(0), 6);
    }

    private static void aVoteIsGivenOnceInATerm() {
        QuorumLog x = new QuorumLog(3, 4, 8);
        x.timeout(0);
        x.timeout(1);
        x.duplicate(1);
        CHECKS.due("deliver an ASK", x.deliver(1), 1);
        CHECKS.due("the vote goes to the first", x.vote(2), 0);
        CHECKS.due("term", x.term(2), 1);
        CHECKS.due("the answer", x.slot(1), Runs.message(2, 2, 0, 1));
        CHECKS.due("deliver the other's ASK", x.deliver(3), 1);
        CHECKS.due("the vote stays", x.vote(2), 0);
        CHECKS.due("it is answered all the same", x.slot(3), Runs.message(2, 2, 1, 1));
        CHECKS.due("deliver that", x.deliver(3), 2);
        CHECKS.due("it was not granted", x.role(1), 5);
        x.drop(1);
        CHECKS.due("deliver the copy of the first ASK", x.deliver(4), 1);
        CHECKS.due("its answer", x.deliver(1), 2);
        CHECKS.due("it was granted again", x.role(0), 6);
        CHECKS.due("an ASK to a candidate of that term", x.deliver(2), 1);
        CHECKS.due("the leader keeps its vote", x.vote(0), 0);
        CHECKS.due("and its role", x.role(0), 6);
    }

    private static void anAskOfAnOldTermIsRefused() {
        QuorumLog x = new QuorumLog(3, 4, 8);
        x.timeout(0);
        x.timeout(1);
        x.timeout(1);
        x.deliver(5);
        CHECKS.due("term", x.term(2), 2);
        CHECKS.due("vote", x.vote(2), 1);
        CHECKS.due("an ASK of term 1", x.deliver(1), 1);
        CHECKS.due("the vote stays", x.vote(2), 1);
        CHECKS.due("the answer bears the greater term", x.slot(1), Runs.message(2, 2, 0, 2));
        CHECKS.due("deliver it", x.deliver(1), 2);
        CHECKS.due("the candidate takes that term", x.term(0), 2);
        CHECKS.due("and is a follower", x.role(0), 4);
        CHECKS.due("with no vote", x.vote(0), QuorumLog.BAD);
    }

    private static void aGreaterTermEndsEveryRole() {
        QuorumLog x = Runs.led(3, 4, 8, 0);
        x.timeout(1);
        x.deliver(0);
        CHECKS.due("a leader becomes a follower", x.role(0), 4);
        CHECKS.due("of that term", x.term(0), 2);
        CHECKS.due("its vote is the sender", x.vote(0), 1);
        x.timeout(2);
        x.timeout(2);
        CHECKS.due("a candidate", x.role(1), 5);
        Runs.settle(x);
        CHECKS.due("is a follower after the ASK", x.role(1), 4);
        CHECKS.due("of the greater term", x.term(1), 3);
        CHECKS.due("its vote is the sender", x.vote(1), 2);
    }

    private static void anAskThatIsBehindIsRefused() {
        QuorumLog x = Runs.led(3, 4, 8, 0);
        x.propose(0, 5);
        x.propose(0, 6);
        Runs.beat(x, 0, 1);
        x.timeout(2);
        x.deliver(1);
        CHECKS.due("the term is taken", x.term(1), 2);
        CHECKS.due("a lesser last term gets no vote", x.vote(1), QuorumLog.BAD);
        x.deliver(1);
        CHECKS.due("no leader", x.role(2), 5);
        Runs.dropAll(x);
        x.timeout(1);
        x.deliver(0);
        CHECKS.due("the same last term, a lesser number", x.vote(0), QuorumLog.BAD);
        CHECKS.due("but the term is taken", x.term(0), 3);
        CHECKS.due("a leader no more", x.role(0), 4);
        Runs.dropAll(x);
        x.timeout(0);
        x.deliver(0);
        CHECKS.due("the same last term, a greater number", x.vote(1), 0);
        Runs.dropAll(x);
        Runs.elect(x, 0);
        Runs.beat(x, 0, 1);
        Runs.beat(x, 0, 1);
        CHECKS.due("now both have two", x.last(1), 2);
        x.timeout(1);
        x.deliver(0);
        CHECKS.due("the same last term, the same number", x.vote(0), 1);
    }

    private static void aGreaterLastTermBeatsALongerLog() {
        QuorumLog x = Runs.led(3, 4, 8, 0);
        x.propose(0, 1);
        x.propose(0, 2);
        x.propose(0, 3);
        Runs.electBy(x, 1, 2);
        x.propose(1, 9);
        CHECKS.due("term of the short log's last", x.termAt(1, 1), 2);
        CHECKS.due("term of the long log's last", x.termAt(0, 3), 1);
        x.crash(1);
        x.restart(1);
        x.timeout(1);
        x.deliver(0);
        CHECKS.due("one entry of term 2 beats three of term 1", x.vote(0), 1);
        Runs.dropAll(x);
        x.timeout(0);
        x.deliver(0);
        CHECKS.due("the longer log is behind", x.vote(1), QuorumLog.BAD);
        CHECKS.due("its term is taken", x.term(1), 4);
    }

    private static void theBaseCountsAsTheLastNumber() {
        QuorumLog x = Runs.led(3, 4, 8, 0);
        x.propose(0, 5);
        Runs.beat(x, 0, 1);
        Runs.beat(x, 0, 1);
        CHECKS.due("all entries go", x.compact(1), 1);
        x.timeout(2);
        x.deliver(1);
        CHECKS.due("an empty log behind a base is ahead of an empty one", x.vote(1), QuorumLog.BAD);
        Runs.dropAll(x);
        x.timeout(1);
        x.deliver(0);
        CHECKS.due("and borne with the base's number and term", x.vote(0), 1);
    }

    private static void leadersNeedMoreThanHalf() {
        int[][] cases = {{3, 1}, {4, 2}, {5, 2}};
        for (int[] c : cases) {
            QuorumLog x = new QuorumLog(c[0], 4, 8);
            x.timeout(0);
            for (int voter = 1; voter <= c[1]; voter++) {
                CHECKS.due("before voter " + voter + " of " + c[0], x.role(0), 5);
                x.deliver(voter - 1);
                x.duplicate(0);
                Runs.settleVotes(x);
            }
            CHECKS.due("after voter " + c[1] + " of " + c[0], x.role(0), 6);
            for (int other = 1; other < c[0]; other++) {
                CHECKS.due("peer at first", x.peer(0, other), Runs.nextAndMatch(1, 0));
            }
        }
    }

    private static void aVoteThatIsNotGrantedDoesNotCount() {
        QuorumLog x = new QuorumLog(5, 4, 40);
        x.timeout(0);
        x.timeout(1);
        x.deliver(4);
        CHECKS.due("a candidate refuses its rival", x.slot(4), Runs.message(2, 0, 1, 1));
        x.deliver(5);
        x.deliver(4);
        x.deliver(5);
        CHECKS.due("one granted, one not", x.role(1), 5);
        x.deliver(6);
        Runs.settleVotes(x);
        CHECKS.due("two granted", x.role(1), 6);
    }

    private static void aVoteOfAnotherTermDoesNotCount() {
        QuorumLog x = new QuorumLog(3, 4, 8);
        x.timeout(0);
        x.deliver(0);
        CHECKS.due("a VOTE of term 1 waits", x.slot(0), Runs.message(2, 1, 0, 1));
        x.timeout(0);
        CHECKS.due("deliver it in term 2", x.deliver(0), 2);
        CHECKS.due("it does not elect", x.role(0), 5);
        CHECKS.due("the term stays", x.term(0), 2);
    }

    private static void aLateVoteDoesNotMakeALeaderAnew() {
        QuorumLog x = new QuorumLog(3, 4, 8);
        x.timeout(0);
        x.deliver(1);
        x.deliver(1);
        x.propose(0, 8);
        Runs.beatSlot(x, 0, 2, 1);
        CHECKS.due("node 2 has entry 1", x.peer(0, 2), Runs.nextAndMatch(2, 1));
        CHECKS.due("the other ASK comes late", x.deliver(0), 1);
        CHECKS.due("its VOTE too", x.deliver(0), 2);
        CHECKS.due("NEXT and MATCH stay", x.peer(0, 2), Runs.nextAndMatch(2, 1));
        CHECKS.due("so do the other's", x.peer(0, 1), Runs.nextAndMatch(1, 0));
        CHECKS.due("it leads", x.role(0), 6);
    }

    private static void aCrashedCandidateDoesNotLead() {
        QuorumLog x = new QuorumLog(3, 4, 8);
        x.timeout(0);
        x.deliver(0);
        x.crash(0);
        x.restart(0);
        CHECKS.due("deliver the VOTE", x.deliver(0), 2);
        CHECKS.due("a follower", x.role(0), 4);
        CHECKS.due("its vote stays", x.vote(0), 0);
        CHECKS.due("its term stays", x.term(0), 1);
    }
}
