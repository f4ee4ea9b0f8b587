/** The edges in 'Terms' of APPENDED and of TO COUNT: each sentence by itself. */
public final class AppendedEdgesTest {
    private static final Checks CHECKS = new Checks("AppendedEdgesTest");

    public static void main(String[] args) {
        anAppendedToAFollower();
        anAppendedToACandidate();
        anAppendedOfALesserTerm();
        aYesWithAGreaterNumber();
        aYesWithTheSameNumber();
        aYesWithALesserNumber();
        aYesLiftsNextToMatch();
        aNoWhereNextIsTwo();
        aNoWhereNextIsOne();
        aNoCountsNothing();
        twoOfThreeHaveIt();
        halfOfFourAreTooFew();
        twoOfFiveAreTooFew();
        aMatchThatIsOneLess();
        aNumberOfAnOlderTerm();
        aNumberOfItsOwnTermBehindOlderOnes();
        theGreatestOfSeveral();
        aNumberThatIsNotGreaterThanTheCommit();
        theLastNumber();
        CHECKS.end();
    }

    private static QuorumLog ledWith(int nodes, int entries) {
        QuorumLog x = Runs.led(nodes, 12, 8, 0);
        for (int i = 1; i <= entries; i++) {
            x.propose(0, i);
        }
        return x;
    }

    private static void anAppendedToAFollower() {
        CHECKS.at("Terms: if the node is leader of the same term");
        QuorumLog x = ledWith(3, 1);
        x.heartbeat(0, 1);
        x.deliver(0);
        Runs.bounce(x, 0);
        CHECKS.due("a yes of its term", x.slot(0), Runs.message(4, 1, 0, 1));
        CHECKS.due("deliver", x.deliver(0), 4);
        CHECKS.due("nothing is committed", x.commit(0), 0);
        CHECKS.due("no leader", x.peer(0, 1), QuorumLog.BAD);
    }

    private static void anAppendedToACandidate() {
        CHECKS.at("Terms: if the node is leader of the same term");
        QuorumLog x = ledWith(3, 1);
        x.heartbeat(0, 1);
        x.deliver(0);
        Runs.bounce(x, 0);
        x.timeout(0);
        CHECKS.due("deliver", x.deliver(0), 4);
        CHECKS.due("a candidate still", x.role(0), 5);
        CHECKS.due("nothing is committed", x.commit(0), 0);
    }

    /** Leader 0 of term 2 gets a yes, and then a no, that bear term 1. */
    private static void anAppendedOfALesserTerm() {
        CHECKS.at("Terms: if the node is leader of the same term");
        QuorumLog x = ledWith(3, 2);
        x.heartbeat(0, 1);
        x.deliver(0);
        Runs.bounce(x, 0);
        x.timeout(0);
        x.deliver(2);
        x.deliver(2);
        CHECKS.due("leader of term 2", x.peer(0, 1), Runs.nextAndMatch(3, 0));
        CHECKS.due("a yes of term 1", x.slot(0), Runs.message(4, 1, 0, 1));
        x.deliver(0);
        CHECKS.due("NEXT and MATCH stay", x.peer(0, 1), Runs.nextAndMatch(3, 0));
        QuorumLog y = aNoWaits(0);
        CHECKS.due("a no of term 3", y.slot(0), Runs.message(4, 1, 0, 3));
        Runs.bounce(y, 0);
        y.timeout(0);
        y.deliver(2);
        y.deliver(2);
        CHECKS.due("leader of term 4", y.peer(0, 1), Runs.nextAndMatch(3, 0));
        y.deliver(0);
        CHECKS.due("NEXT and MATCH stay", y.peer(0, 1), Runs.nextAndMatch(3, 0));
    }

    /**
     * Leader 0 of term 3 has two entries and node 1 has none; so many of its APPENDs have been
     * refused, and the answer to one more waits in slot 0.
     */
    private static QuorumLog aNoWaits(int refusals) {
        QuorumLog x = ledWith(3, 2);
        Runs.elect(x, 1);
        Runs.elect(x, 0);
        x.heartbeat(0, 1);
        for (int i = 0; i < refusals; i++) {
            x.duplicate(0);
            x.deliver(1);
            x.deliver(1);
        }
        x.deliver(0);
        return x;
    }

    private static void aYesWithAGreaterNumber() {
        CHECKS.at("Terms: for yes, MATCH of the sender becomes m if that is greater, NEXT is MATCH + 1");
        QuorumLog x = ledWith(3, 2);
        CHECKS.due("before", x.peer(0, 1), Runs.nextAndMatch(1, 0));
        Runs.beat(x, 0, 1);
        CHECKS.due("m is 1", x.peer(0, 1), Runs.nextAndMatch(2, 1));
        Runs.beat(x, 0, 1);
        CHECKS.due("m is 2", x.peer(0, 1), Runs.nextAndMatch(3, 2));
        CHECKS.due("the other's stay", x.peer(0, 2), Runs.nextAndMatch(1, 0));
    }

    private static void aYesWithTheSameNumber() {
        CHECKS.at("Terms: for yes, MATCH of the sender becomes m if that is greater, NEXT is MATCH + 1");
        QuorumLog x = ledWith(3, 2);
        x.heartbeat(0, 1);
        x.deliver(0);
        x.duplicate(0);
        x.deliver(0);
        CHECKS.due("the first", x.peer(0, 1), Runs.nextAndMatch(2, 1));
        CHECKS.due("its copy", x.deliver(1), 4);
        CHECKS.due("nothing changes", x.peer(0, 1), Runs.nextAndMatch(2, 1));
    }

    private static void aYesWithALesserNumber() {
        CHECKS.at("Terms: for yes, MATCH of the sender becomes m if that is greater, NEXT is MATCH + 1");
        QuorumLog x = ledWith(3, 3);
        x.heartbeat(0, 1);
        x.deliver(0);
        x.duplicate(0);
        x.deliver(0);
        Runs.beatSlot(x, 0, 1, 0);
        Runs.beatSlot(x, 0, 1, 0);
        CHECKS.due("m was 3", x.peer(0, 1), Runs.nextAndMatch(4, 3));
        CHECKS.due("m is 1, late", x.deliver(1), 4);
        CHECKS.due("nothing changes", x.peer(0, 1), Runs.nextAndMatch(4, 3));
        CHECKS.due("nor the commit", x.commit(0), 3);
    }

    /** A late no takes 1 from NEXT and nothing from MATCH; a late yes of 1 sets NEXT by MATCH. */
    private static void aYesLiftsNextToMatch() {
        CHECKS.at("Terms: NEXT is MATCH + 1");
        QuorumLog x = aNoWaits(1);
        x.duplicate(0);
        x.deliver(0);
        CHECKS.due("NEXT is 1", x.peer(0, 1), Runs.nextAndMatch(1, 0));
        x.heartbeat(0, 1);
        x.deliver(0);
        x.duplicate(0);
        x.deliver(0);
        CHECKS.due("a yes of 1", x.peer(0, 1), Runs.nextAndMatch(2, 1));
        x.deliver(1);
        CHECKS.due("a late no", x.peer(0, 1), Runs.nextAndMatch(1, 1));
        x.deliver(2);
        CHECKS.due("a late yes of 1", x.peer(0, 1), Runs.nextAndMatch(2, 1));
    }

    private static void aNoWhereNextIsTwo() {
        CHECKS.at("Terms: for no, NEXT is 1 less, but 1 at least");
        QuorumLog x = aNoWaits(0);
        CHECKS.due("3", x.peer(0, 1), Runs.nextAndMatch(3, 0));
        x.deliver(0);
        CHECKS.due("2 by a no", x.peer(0, 1), Runs.nextAndMatch(2, 0));
        QuorumLog y = aNoWaits(1);
        CHECKS.due("2", y.peer(0, 1), Runs.nextAndMatch(2, 0));
        y.deliver(0);
        CHECKS.due("1 by a no", y.peer(0, 1), Runs.nextAndMatch(1, 0));
        CHECKS.due("the other's stay", y.peer(0, 2), Runs.nextAndMatch(3, 0));
    }

    private static void aNoWhereNextIsOne() {
        CHECKS.at("Terms: for no, NEXT is 1 less, but 1 at least");
        QuorumLog x = aNoWaits(2);
        CHECKS.due("1", x.peer(0, 1), Runs.nextAndMatch(1, 0));
        CHECKS.due("a no", x.deliver(0), 4);
        CHECKS.due("1 still", x.peer(0, 1), Runs.nextAndMatch(1, 0));
        CHECKS.due("an APPEND of p 0", x.heartbeat(0, 1), 3);
        x.deliver(0);
        CHECKS.due("entry 1 came", x.last(1), 1);
    }

    private static void aNoCountsNothing() {
        CHECKS.at("Terms: NEXT is MATCH + 1, and it COUNTS; for no, NEXT is 1 less");
        QuorumLog x = aNoWaits(0);
        CHECKS.due("before", x.commit(0), 0);
        x.propose(0, 3);
        x.deliver(0);
        CHECKS.due("a no changes no commit", x.commit(0), 0);
        CHECKS.due("nor MATCH", x.peer(0, 1), Runs.nextAndMatch(2, 0));
    }

    private static void twoOfThreeHaveIt() {
        CHECKS.at("Terms: that more than half of all nodes have (itself, and those with a MATCH not less)");
        QuorumLog x = ledWith(3, 1);
        CHECKS.due("itself alone", x.commit(0), 0);
        Runs.beat(x, 0, 2);
        CHECKS.due("two of three", x.commit(0), 1);
    }

    private static void halfOfFourAreTooFew() {
        CHECKS.at("Terms: that more than half of all nodes have (itself, and those with a MATCH not less)");
        QuorumLog x = ledWith(4, 1);
        Runs.beat(x, 0, 3);
        CHECKS.due("two of four", x.commit(0), 0);
        Runs.beat(x, 0, 3);
        CHECKS.due("the same two", x.commit(0), 0);
        Runs.beat(x, 0, 1);
        CHECKS.due("three of four", x.commit(0), 1);
    }

    private static void twoOfFiveAreTooFew() {
        CHECKS.at("Terms: that more than half of all nodes have (itself, and those with a MATCH not less)");
        QuorumLog x = ledWith(5, 1);
        Runs.beat(x, 0, 4);
        CHECKS.due("two of five", x.commit(0), 0);
        x.crash(1);
        x.crash(2);
        Runs.beat(x, 0, 4);
        CHECKS.due("two of five, of which two are down", x.commit(0), 0);
        Runs.beat(x, 0, 3);
        CHECKS.due("three of five", x.commit(0), 1);
    }

    private static void aMatchThatIsOneLess() {
        CHECKS.at("Terms: those with a MATCH not less");
        QuorumLog x = ledWith(3, 3);
        Runs.beat(x, 0, 1);
        CHECKS.due("MATCH 1: 1 and not 2", x.commit(0), 1);
        Runs.beat(x, 0, 1);
        CHECKS.due("MATCH 2: 2 and not 3", x.commit(0), 2);
        Runs.beat(x, 0, 2);
        CHECKS.due("the other's MATCH 1", x.commit(0), 2);
    }

    /** Leader 0 of term 2 has entries 1 and 2 of term 1, and node 1 has the first of them. */
    private static QuorumLog olderEntries() {
        QuorumLog x = ledWith(3, 2);
        x.heartbeat(0, 1);
        x.deliver(0);
        x.drop(0);
        Runs.bounce(x, 0);
        Runs.elect(x, 0);
        return x;
    }

    private static void aNumberOfAnOlderTerm() {
        CHECKS.at("Terms: the greatest number up to its last with its own term at it");
        QuorumLog x = olderEntries();
        for (int i = 0; i < 3; i++) {
            Runs.beat(x, 0, 1);
        }
        CHECKS.due("node 1 has both", x.peer(0, 1), Runs.nextAndMatch(3, 2));
        CHECKS.due("both are of term 1", x.commit(0), 0);
        for (int i = 0; i < 4; i++) {
            Runs.beat(x, 0, 2);
        }
        CHECKS.due("node 2 has both, too", x.peer(0, 2), Runs.nextAndMatch(3, 2));
        CHECKS.due("all have them, and they are of term 1", x.commit(0), 0);
    }

    private static void aNumberOfItsOwnTermBehindOlderOnes() {
        CHECKS.at("Terms: the greatest number up to its last with its own term at it");
        QuorumLog x = olderEntries();
        x.propose(0, 3);
        Runs.beat(x, 0, 1);
        CHECKS.due("a no", x.peer(0, 1), Runs.nextAndMatch(2, 0));
        Runs.beat(x, 0, 1);
        CHECKS.due("a yes of 2", x.peer(0, 1), Runs.nextAndMatch(3, 2));
        CHECKS.due("which is of term 1", x.commit(0), 0);
        Runs.beat(x, 0, 1);
        CHECKS.due("a yes of 3", x.peer(0, 1), Runs.nextAndMatch(4, 3));
        CHECKS.due("which is of term 2: all three", x.commit(0), 3);
        CHECKS.due("the state", x.state(0), (1 * 31 + 2) * 31 + 3);
    }

    /** Leader 0 of term 2 has 1 to 3 of term 1, 4 and 5 of term 2; node 1 has all, node 2 has two. */
    private static void theGreatestOfSeveral() {
        CHECKS.at("Terms: the commit becomes the greatest number");
        QuorumLog x = ledWith(5, 3);
        for (int i = 0; i < 3; i++) {
            Runs.beat(x, 0, 1);
        }
        Runs.beat(x, 0, 2);
        Runs.beat(x, 0, 2);
        CHECKS.due("three of five have 2", x.commit(0), 2);
        Runs.bounce(x, 0);
        Runs.elect(x, 0);
        x.propose(0, 4);
        x.propose(0, 5);
        Runs.beat(x, 0, 1);
        Runs.beat(x, 0, 1);
        CHECKS.due("node 1 has 5", x.peer(0, 1), Runs.nextAndMatch(6, 5));
        CHECKS.due("two of five have 5", x.commit(0), 0);
        int[] due = {0, 0, 4, 5};
        for (int i = 0; i < 4; i++) {
            Runs.beat(x, 0, 2);
            CHECKS.due("after heartbeat " + i, x.commit(0), due[i]);
        }
    }

    private static void aNumberThatIsNotGreaterThanTheCommit() {
        CHECKS.at("Terms: greater than the commit");
        QuorumLog x = ledWith(3, 2);
        Runs.beat(x, 0, 1);
        Runs.beat(x, 0, 1);
        CHECKS.due("before", x.commit(0), 2);
        Runs.beat(x, 0, 2);
        CHECKS.due("all three have 1", x.commit(0), 2);
        Runs.beat(x, 0, 2);
        CHECKS.due("all three have 2", x.commit(0), 2);
        Runs.beat(x, 0, 2);
        CHECKS.due("and again", x.commit(0), 2);
    }

    private static void theLastNumber() {
        CHECKS.at("Terms: the greatest number up to its last");
        for (int entries = 1; entries <= 12; entries += 11) {
            QuorumLog x = ledWith(3, entries);
            for (int i = 1; i <= entries; i++) {
                Runs.beat(x, 0, 1);
                CHECKS.due("of " + entries, x.commit(0), i);
            }
            Runs.beat(x, 0, 1);
            CHECKS.due("not behind the last", x.commit(0), entries);
        }
    }
}
