/** The edges in 'Terms' of a message's term, of ASK and of VOTE: each sentence by itself. */
public final class AskVoteEdgesTest {
    private static final Checks CHECKS = new Checks("AskVoteEdgesTest");

    public static void main(String[] args) {
        anAskOfAGreaterTerm();
        aVoteOfAGreaterTerm();
        anAppendOfAGreaterTerm();
        anAppendedOfAGreaterTerm();
        aSnapshotOfAGreaterTerm();
        messagesOfTheSameTerm();
        anAskOfALesserTerm();
        anAskWithTheVoteGivenToAnother();
        anAskWithTheVoteGivenToTheSender();
        anAskToALeaderAndACandidate();
        anAskWithAGreaterTermAndALesserNumber();
        anAskWithTheSameTermAndAGreaterNumber();
        anAskWithTheSameTermAndNumber();
        anAskWithTheSameTermAndALesserNumber();
        anAskWithALesserTermAndAGreaterNumber();
        anAskFromAndToABase();
        anAskBehindAMessageOfAnotherNumber();
        aVoteThatIsNotGranted();
        aVoteOfALesserTerm();
        aVoteToAFollower();
        aVoteToALeader();
        aVoterThatVotesTwice();
        halfOfFourAreTooFew();
        twoOfFiveAreTooFew();
        twoOfThreeAreEnough();
        nextOfAnEmptyLog();
        nextBehindEntries();
        nextBehindABase();
        matchOfANewTerm();
        CHECKS.end();
    }

    private static void isFollower(QuorumLog x, int node, int term) {
        CHECKS.due("the term", x.term(node), term);
        CHECKS.due("the role", x.role(node), 4);
        CHECKS.due("the vote", x.vote(node), QuorumLog.BAD);
    }

    private static void anAskOfAGreaterTerm() {
        CHECKS.at("Terms: that becomes this, the role follower, the vote none");
        QuorumLog x = Runs.led(3, 4, 8, 0);
        x.propose(0, 5);
        x.timeout(1);
        CHECKS.due("to a leader that is ahead", x.deliver(0), 1);
        isFollower(x, 0, 2);
        Runs.dropAll(x);
        x.timeout(0);
        x.timeout(2);
        x.timeout(2);
        x.timeout(2);
        CHECKS.due("of term 4", x.slot(6), Runs.message(1, 2, 0, 4));
        CHECKS.due("to a candidate of term 3 that is ahead", x.deliver(6), 1);
        isFollower(x, 0, 4);
    }

    private static void aVoteOfAGreaterTerm() {
        CHECKS.at("Terms: that becomes this, the role follower, the vote none");
        QuorumLog x = new QuorumLog(3, 4, 8);
        x.timeout(0);
        x.timeout(1);
        x.timeout(1);
        x.deliver(5);
        x.deliver(1);
        CHECKS.due("a VOTE of term 2", x.slot(1), Runs.message(2, 2, 0, 2));
        CHECKS.due("to a candidate of term 1", x.role(0), 5);
        CHECKS.due("deliver", x.deliver(1), 2);
        isFollower(x, 0, 2);
    }

    private static void anAppendOfAGreaterTerm() {
        CHECKS.at("Terms: that becomes this, the role follower, the vote none");
        QuorumLog x = Runs.led(3, 4, 8, 0);
        Runs.electBy(x, 1, 2);
        CHECKS.due("a leader of term 1", x.role(0), 6);
        x.heartbeat(1, 0);
        CHECKS.due("deliver", x.deliver(0), 3);
        isFollower(x, 0, 2);
        CHECKS.due("the answer bears it", x.slot(0), Runs.message(4, 0, 1, 2));
    }

    private static void anAppendedOfAGreaterTerm() {
        CHECKS.at("Terms: that becomes this, the role follower, the vote none");
        QuorumLog x = Runs.led(3, 4, 8, 0);
        x.heartbeat(0, 1);
        x.timeout(1);
        x.deliver(0);
        CHECKS.due("an APPENDED of term 2", x.slot(0), Runs.message(4, 1, 0, 2));
        CHECKS.due("deliver", x.deliver(0), 4);
        isFollower(x, 0, 2);
    }

    private static void aSnapshotOfAGreaterTerm() {
        CHECKS.at("Terms: that becomes this, the role follower, the vote none");
        QuorumLog x = Runs.led(3, 4, 8, 0);
        Runs.electBy(x, 1, 2);
        x.propose(1, 5);
        Runs.beat(x, 1, 2);
        x.compact(1);
        CHECKS.due("a SNAPSHOT of term 2", x.heartbeat(1, 0), 5);
        CHECKS.due("to a leader of term 1", x.role(0), 6);
        CHECKS.due("deliver", x.deliver(0), 5);
        isFollower(x, 0, 2);
        CHECKS.due("it came", x.base(0), 1);
    }

    private static void messagesOfTheSameTerm() {
        CHECKS.at("Terms: if its term is greater than the node's");
        QuorumLog x = Runs.led(3, 4, 8, 0);
        x.heartbeat(0, 1);
        x.deliver(0);
        CHECKS.due("the follower's vote stays", x.vote(1), 0);
        x.deliver(0);
        CHECKS.due("the leader leads", x.role(0), 6);
        CHECKS.due("the leader's vote stays", x.vote(0), 0);
        CHECKS.due("the term stays", x.term(0), 1);
    }

    /** Node 2 is in term 2 with no vote; an ASK of node 0 of term 1, not behind, waits in slot 1. */
    private static void anAskOfALesserTerm() {
        CHECKS.at("Terms: the node GRANTS if the terms are the same");
        QuorumLog x = new QuorumLog(3, 4, 8);
        x.timeout(0);
        x.drop(0);
        x.timeout(1);
        x.drop(0);
        x.drop(2);
        x.timeout(1);
        x.drop(2);
        x.deliver(0);
        x.deliver(0);
        x.heartbeat(1, 2);
        x.deliver(0);
        x.drop(0);
        CHECKS.due("the term of node 2", x.term(2), 2);
        CHECKS.due("its vote", x.vote(2), QuorumLog.BAD);
        CHECKS.due("the ASK", x.slot(1), Runs.message(1, 0, 2, 1));
        CHECKS.due("deliver", x.deliver(1), 1);
        CHECKS.due("no vote", x.vote(2), QuorumLog.BAD);
        CHECKS.due("the term stays", x.term(2), 2);
        CHECKS.due("it is answered", x.slot(0), Runs.message(2, 2, 0, 2));
    }

    private static void anAskWithTheVoteGivenToAnother() {
        CHECKS.at("Terms: its vote is none or the sender");
        QuorumLog x = new QuorumLog(3, 4, 8);
        x.timeout(0);
        x.timeout(1);
        x.deliver(1);
        CHECKS.due("none: granted", x.vote(2), 0);
        CHECKS.due("deliver the other's ASK", x.deliver(3), 1);
        CHECKS.due("the vote stays", x.vote(2), 0);
        CHECKS.due("the answer", x.slot(3), Runs.message(2, 2, 1, 1));
        x.deliver(3);
        CHECKS.due("was no", x.role(1), 5);
        x.deliver(1);
        CHECKS.due("the first one's was yes", x.role(0), 6);
    }

    private static void anAskWithTheVoteGivenToTheSender() {
        CHECKS.at("Terms: its vote is none or the sender");
        QuorumLog x = new QuorumLog(3, 4, 8);
        x.timeout(0);
        x.duplicate(0);
        x.deliver(0);
        x.drop(0);
        CHECKS.due("the vote", x.vote(1), 0);
        CHECKS.due("its copy", x.deliver(2), 1);
        CHECKS.due("the vote stays", x.vote(1), 0);
        CHECKS.due("the answer", x.deliver(0), 2);
        CHECKS.due("was yes again", x.role(0), 6);
    }

    private static void anAskToALeaderAndACandidate() {
        CHECKS.at("Terms: its vote is none or the sender");
        QuorumLog x = new QuorumLog(3, 4, 8);
        x.timeout(1);
        x.timeout(0);
        x.deliver(3);
        x.deliver(3);
        CHECKS.due("a leader", x.role(0), 6);
        x.deliver(0);
        CHECKS.due("its vote is itself", x.vote(0), 0);
        CHECKS.due("it leads still", x.role(0), 6);
        x.deliver(2);
        CHECKS.due("a candidate's vote is itself", x.vote(1), 1);
        CHECKS.due("it stands still", x.role(1), 5);
        Runs.settle(x);
        CHECKS.due("neither was granted", x.role(1), 5);
    }

    /** Node 0 has three entries of term 1, node 1 has one of term 2, node 2 none; 0 and 1 are up. */
    private static QuorumLog shortButLater() {
        QuorumLog x = Runs.led(3, 4, 8, 0);
        for (int i = 1; i <= 3; i++) {
            x.propose(0, i);
        }
        Runs.electBy(x, 1, 2);
        x.propose(1, 9);
        Runs.bounce(x, 1);
        return x;
    }

    private static void anAskWithAGreaterTermAndALesserNumber() {
        CHECKS.at("Terms: the term borne is greater than that at its own last number");
        QuorumLog x = shortButLater();
        x.timeout(1);
        x.deliver(0);
        CHECKS.due("granted", x.vote(0), 1);
        x.deliver(0);
        CHECKS.due("and told so", x.role(1), 6);
    }

    private static void anAskWithALesserTermAndAGreaterNumber() {
        CHECKS.at("Terms: the term borne is greater than that at its own last number");
        QuorumLog x = shortButLater();
        Runs.bounce(x, 0);
        x.timeout(0);
        x.timeout(0);
        CHECKS.due("an ASK of term 3 to node 1", x.slot(2), Runs.message(1, 0, 1, 3));
        x.deliver(2);
        CHECKS.due("the term is taken", x.term(1), 3);
        CHECKS.due("not granted", x.vote(1), QuorumLog.BAD);
        x.deliver(2);
        CHECKS.due("and told so", x.role(0), 5);
    }

    /** Leader 0 has as many entries of term 1, node 1 has so many of them; all in term 1. */
    private static QuorumLog alikeUpTo(int entries, int came) {
        QuorumLog x = Runs.led(3, 4, 8, 0);
        for (int i = 1; i <= entries; i++) {
            x.propose(0, i);
        }
        for (int i = 0; i < came; i++) {
            Runs.beat(x, 0, 1);
        }
        Runs.bounce(x, 0);
        return x;
    }

    private static void anAskWithTheSameTermAndAGreaterNumber() {
        CHECKS.at("Terms: or it is the same and the number not less");
        QuorumLog x = alikeUpTo(3, 2);
        x.timeout(0);
        x.deliver(0);
        CHECKS.due("3 to 2: granted", x.vote(1), 0);
        x.deliver(0);
        CHECKS.due("and told so", x.role(0), 6);
    }

    private static void anAskWithTheSameTermAndNumber() {
        CHECKS.at("Terms: or it is the same and the number not less");
        QuorumLog x = alikeUpTo(2, 2);
        x.timeout(1);
        x.deliver(0);
        CHECKS.due("2 to 2: granted", x.vote(0), 1);
        x.deliver(0);
        CHECKS.due("and told so", x.role(1), 6);
        QuorumLog y = new QuorumLog(3, 4, 8);
        y.timeout(1);
        y.deliver(0);
        CHECKS.due("0 to 0: granted", y.vote(0), 1);
    }

    private static void anAskWithTheSameTermAndALesserNumber() {
        CHECKS.at("Terms: or it is the same and the number not less");
        QuorumLog x = alikeUpTo(3, 2);
        x.timeout(1);
        x.deliver(0);
        CHECKS.due("the term is taken", x.term(0), 2);
        CHECKS.due("2 to 3: not granted", x.vote(0), QuorumLog.BAD);
        x.deliver(0);
        CHECKS.due("and told so", x.role(1), 5);
    }

    private static void anAskFromAndToABase() {
        CHECKS.at("Terms: with the sender's last number and the term at it");
        QuorumLog x = alikeUpTo(2, 2);
        Runs.elect(x, 0);
        x.propose(0, 3);
        Runs.beat(x, 0, 1);
        CHECKS.due("all entries of node 0 go", x.compact(0), 3);
        x.timeout(1);
        x.deliver(0);
        CHECKS.due("3 to a base of 3, both of term 2: granted", x.vote(0), 1);
        Runs.dropAll(x);
        x.timeout(0);
        x.deliver(0);
        CHECKS.due("a base of 3 to 3, both of term 2: granted", x.vote(1), 0);
        Runs.dropAll(x);
        x.timeout(2);
        x.timeout(2);
        x.timeout(2);
        CHECKS.due("of term 5", x.slot(4), Runs.message(1, 2, 0, 5));
        x.deliver(4);
        CHECKS.due("0 to a base of 3: not granted", x.vote(0), QuorumLog.BAD);
        CHECKS.due("the term is taken", x.term(0), 5);
    }

    /** The APPEND bears 3, and a no 0; the ASKs that follow each bear the 2 that their sender has. */
    private static void anAskBehindAMessageOfAnotherNumber() {
        CHECKS.at("Terms: with the sender's last number and the term at it");
        QuorumLog x = alikeUpTo(3, 2);
        Runs.elect(x, 0);
        x.heartbeat(0, 1);
        x.timeout(1);
        CHECKS.due("an ASK of 2", x.slot(1), Runs.message(1, 1, 0, 3));
        x.deliver(1);
        CHECKS.due("2 to 3: not granted", x.vote(0), QuorumLog.BAD);
        QuorumLog y = alikeUpTo(2, 2);
        Runs.elect(y, 0);
        y.heartbeat(0, 2);
        y.deliver(0);
        CHECKS.due("the no of node 2", y.slot(0), Runs.message(4, 2, 0, 2));
        y.timeout(1);
        y.deliver(1);
        CHECKS.due("2 to 2: granted", y.vote(0), 1);
    }

    private static void aVoteThatIsNotGranted() {
        CHECKS.at("Terms: if the node is a candidate of the same term and it is granted");
        QuorumLog x = new QuorumLog(3, 4, 8);
        x.timeout(0);
        x.timeout(1);
        x.deliver(0);
        CHECKS.due("the rival's VOTE", x.slot(0), Runs.message(2, 1, 0, 1));
        x.deliver(0);
        CHECKS.due("does not count", x.role(0), 5);
    }

    private static void aVoteOfALesserTerm() {
        CHECKS.at("Terms: if the node is a candidate of the same term and it is granted");
        QuorumLog x = new QuorumLog(3, 4, 8);
        x.timeout(0);
        x.deliver(0);
        x.timeout(0);
        CHECKS.due("a VOTE of term 1, granted", x.slot(0), Runs.message(2, 1, 0, 1));
        x.deliver(0);
        CHECKS.due("does not count in term 2", x.role(0), 5);
        CHECKS.due("the term stays", x.term(0), 2);
    }

    private static void aVoteToAFollower() {
        CHECKS.at("Terms: if the node is a candidate of the same term and it is granted");
        QuorumLog x = new QuorumLog(3, 4, 8);
        x.timeout(0);
        x.deliver(0);
        Runs.bounce(x, 0);
        CHECKS.due("a granted VOTE of its term", x.deliver(0), 2);
        CHECKS.due("does not make a leader of it", x.role(0), 4);
    }

    private static void aVoteToALeader() {
        CHECKS.at("Terms: if the node is a candidate of the same term and it is granted");
        QuorumLog x = new QuorumLog(3, 4, 8);
        x.timeout(0);
        x.deliver(0);
        x.deliver(0);
        x.propose(0, 5);
        Runs.beatSlot(x, 0, 1, 0);
        CHECKS.due("MATCH is 1", x.peer(0, 1), Runs.nextAndMatch(2, 1));
        CHECKS.due("the other ASK", x.deliver(1), 1);
        CHECKS.due("its VOTE", x.deliver(0), 2);
        CHECKS.due("NEXT and MATCH stay", x.peer(0, 1), Runs.nextAndMatch(2, 1));
    }

    private static void aVoterThatVotesTwice() {
        CHECKS.at("Terms: the sender is one of its voters");
        QuorumLog x = new QuorumLog(5, 4, 8);
        x.timeout(0);
        x.deliver(0);
        x.duplicate(0);
        x.duplicate(0);
        CHECKS.due("once", x.deliver(0), 2);
        CHECKS.due("twice", x.deliver(4), 2);
        CHECKS.due("three times", x.deliver(5), 2);
        CHECKS.due("one voter beside itself", x.role(0), 5);
    }

    /** Node 0 stands; the next voters, one by one, get its ASK and it gets their VOTE. */
    private static QuorumLog votedBy(int nodes, int voters) {
        QuorumLog x = new QuorumLog(nodes, 4, 8);
        x.timeout(0);
        for (int slot = 0; slot < voters; slot++) {
            x.deliver(slot);
            Runs.settleVotes(x);
        }
        return x;
    }

    private static void halfOfFourAreTooFew() {
        CHECKS.at("Terms: If these are more than half of all nodes, it is leader");
        CHECKS.due("one of four", votedBy(4, 0).role(0), 5);
        CHECKS.due("two of four", votedBy(4, 1).role(0), 5);
        CHECKS.due("three of four", votedBy(4, 2).role(0), 6);
    }

    private static void twoOfFiveAreTooFew() {
        CHECKS.at("Terms: If these are more than half of all nodes, it is leader");
        CHECKS.due("one of five", votedBy(5, 0).role(0), 5);
        CHECKS.due("two of five", votedBy(5, 1).role(0), 5);
        CHECKS.due("three of five", votedBy(5, 2).role(0), 6);
        QuorumLog x = votedBy(5, 1);
        for (int node = 1; node < 5; node++) {
            x.crash(node);
        }
        CHECKS.due("nodes that are down are nodes", x.role(0), 5);
    }

    private static void twoOfThreeAreEnough() {
        CHECKS.at("Terms: If these are more than half of all nodes, it is leader");
        CHECKS.due("one of three", votedBy(3, 0).role(0), 5);
        CHECKS.due("two of three", votedBy(3, 1).role(0), 6);
    }

    private static void nextOfAnEmptyLog() {
        CHECKS.at("Terms: NEXT is its last number + 1 and MATCH 0 for all");
        QuorumLog x = Runs.led(5, 4, 8, 2);
        int[] peers = {0, 1, 3, 4};
        for (int peer : peers) {
            CHECKS.due("of " + peer, x.peer(2, peer), Runs.nextAndMatch(1, 0));
        }
    }

    private static void nextBehindEntries() {
        CHECKS.at("Terms: NEXT is its last number + 1 and MATCH 0 for all");
        QuorumLog x = alikeUpTo(3, 0);
        Runs.elect(x, 0);
        CHECKS.due("of 1", x.peer(0, 1), Runs.nextAndMatch(4, 0));
        CHECKS.due("of 2", x.peer(0, 2), Runs.nextAndMatch(4, 0));
    }

    private static void nextBehindABase() {
        CHECKS.at("Terms: NEXT is its last number + 1 and MATCH 0 for all");
        QuorumLog x = Runs.led(3, 4, 8, 0);
        x.propose(0, 1);
        x.propose(0, 2);
        Runs.beat(x, 0, 1);
        Runs.beat(x, 0, 1);
        x.compact(0);
        Runs.bounce(x, 0);
        Runs.elect(x, 0);
        CHECKS.due("of 1, behind a base of 2", x.peer(0, 1), Runs.nextAndMatch(3, 0));
        CHECKS.due("of 2, which has nothing", x.peer(0, 2), Runs.nextAndMatch(3, 0));
    }

    private static void matchOfANewTerm() {
        CHECKS.at("Terms: NEXT is its last number + 1 and MATCH 0 for all");
        QuorumLog x = Runs.led(3, 4, 8, 0);
        x.propose(0, 1);
        x.propose(0, 2);
        Runs.beat(x, 0, 1);
        CHECKS.due("in term 1", x.peer(0, 1), Runs.nextAndMatch(2, 1));
        Runs.bounce(x, 0);
        Runs.elect(x, 0);
        CHECKS.due("in term 2", x.peer(0, 1), Runs.nextAndMatch(3, 0));
        CHECKS.due("of the other", x.peer(0, 2), Runs.nextAndMatch(3, 0));
    }
}
