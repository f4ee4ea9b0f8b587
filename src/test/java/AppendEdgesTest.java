/** The edges in 'Terms' of APPEND: each sentence by itself. */
public final class AppendEdgesTest {
    private static final Checks CHECKS = new Checks("AppendEdgesTest");

    public static void main(String[] args) {
        anAppendOfALesserTerm();
        aNoOfALesserTermReachesALeader();
        anAppendOfTheSameTerm();
        anAppendToACandidateOfItsTerm();
        aRefusedAppendToACandidateOfItsTerm();
        anAppendJustBelowTheBase();
        anAppendBelowABaseWithAnEntryBehind();
        anAppendFarBelowTheBase();
        anAppendAtTheBase();
        anAppendOneBehindTheLast();
        anAppendFarBehindTheLast();
        anAppendAtTheLast();
        anAppendWithAnotherTermAtTheLast();
        anAppendWithAnotherTermInTheMidst();
        anAppendWithoutAnEntry();
        anAppendWithoutAnEntryBelowTheLast();
        anEntryOfAnotherTermAtTheLast();
        anEntryOfAnotherTermBeforeOthers();
        anEntryOfTheSameTermBeforeOthers();
        anEntryForAnEmptyLog();
        anEntryForALogWithOnePlace();
        anEntryForAFullLog();
        anEntryThatAFullLogHas();
        anEntryThatTakesAPlaceInAFullLog();
        aCommitThatIsLessThanWhatItHas();
        aCommitThatIsWhatItHas();
        aCommitThatIsMoreThanWhatItHas();
        aCommitThatIsMoreThanAFullLogHas();
        aCommitThatIsNotGreater();
        CHECKS.end();
    }

    private static void anAppendOfALesserTerm() {
        CHECKS.at("Terms: if the message's term is less than the node's, it answers with 4 APPENDED, no, and 0");
        QuorumLog x = Runs.led(3, 4, 8, 0);
        x.propose(0, 5);
        x.heartbeat(0, 1);
        x.timeout(1);
        CHECKS.due("deliver", x.deliver(0), 3);
        CHECKS.due("no entry came", x.last(1), 0);
        CHECKS.due("the role stays", x.role(1), 5);
        CHECKS.due("the term stays", x.term(1), 2);
        CHECKS.due("the vote stays", x.vote(1), 1);
        CHECKS.due("the answer bears its term", x.slot(0), Runs.message(4, 1, 0, 2));
    }

    /** Leader 0 of term 2 gets the answer to an APPEND that it sent in term 1. */
    private static void aNoOfALesserTermReachesALeader() {
        CHECKS.at("Terms: if the message's term is less than the node's, it answers with 4 APPENDED, no, and 0");
        QuorumLog x = withABase(0, 0);
        CHECKS.due("before", x.peer(0, 1), Runs.nextAndMatch(3, 0));
        QuorumLog y = withABase(0, 1);
        CHECKS.due("it was a no", y.peer(0, 1), Runs.nextAndMatch(2, 0));
    }

    private static void anAppendOfTheSameTerm() {
        CHECKS.at("Terms: if the message's term is less than the node's");
        QuorumLog x = Runs.led(3, 4, 8, 0);
        x.propose(0, 5);
        x.heartbeat(0, 1);
        CHECKS.due("term 1", x.term(1), 1);
        x.deliver(0);
        CHECKS.due("the entry came", x.last(1), 1);
        x.deliver(0);
        CHECKS.due("yes, and 1", x.peer(0, 1), Runs.nextAndMatch(2, 1));
    }

    /** Node 1 stands in term 1, and so does node 0, which leads by node 2's vote. */
    private static QuorumLog rivals() {
        QuorumLog x = new QuorumLog(3, 4, 8);
        x.timeout(1);
        Runs.dropAll(x);
        Runs.electBy(x, 0, 2);
        return x;
    }

    private static void anAppendToACandidateOfItsTerm() {
        CHECKS.at("Terms: Otherwise its role is follower");
        QuorumLog x = rivals();
        CHECKS.due("a candidate", x.role(1), 5);
        x.heartbeat(0, 1);
        x.deliver(0);
        CHECKS.due("a follower", x.role(1), 4);
        CHECKS.due("the vote stays", x.vote(1), 1);
        CHECKS.due("the term stays", x.term(1), 1);
    }

    /** A candidate that must answer no, because its log differs, is a follower all the same. */
    private static void aRefusedAppendToACandidateOfItsTerm() {
        CHECKS.at("Terms: Otherwise its role is follower");
        QuorumLog x = Runs.led(3, 4, 8, 0);
        x.propose(0, 5);
        x.propose(0, 6);
        Runs.bounce(x, 0);
        x.timeout(1);
        Runs.dropAll(x);
        Runs.electBy(x, 0, 2);
        CHECKS.due("a candidate of term 2", x.role(1), 5);
        CHECKS.due("a leader of term 2", x.term(0), x.term(1));
        x.heartbeat(0, 1);
        x.deliver(0);
        CHECKS.due("a follower", x.role(1), 4);
        x.deliver(0);
        CHECKS.due("it said no", x.peer(0, 1), Runs.nextAndMatch(2, 0));
    }

    /**
     * Leader 0 of term 2 has the entries 1 and 2, perhaps 3, and no base; node 1 has them, too, but a
     * base of 2. NEXT of node 1 is behind them all, less 1 for each APPEND of term 1 that it refuses.
     */
    private static QuorumLog withABase(int behind, int refusals) {
        QuorumLog x = Runs.led(3, 4, 8, 0);
        for (int i = 1; i <= 2 + behind; i++) {
            x.propose(0, i);
        }
        for (int i = 0; i < 3; i++) {
            Runs.beat(x, 0, 1);
        }
        x.compact(1);
        x.heartbeat(0, 1);
        Runs.bounce(x, 0);
        x.timeout(0);
        x.deliver(1);
        x.deliver(1);
        x.drop(2);
        for (int i = 0; i < refusals; i++) {
            x.duplicate(0);
            x.deliver(1);
            x.deliver(1);
        }
        x.drop(0);
        return x;
    }

    private static void anAppendJustBelowTheBase() {
        CHECKS.at("Terms: if p is less than its base: yes, and its base");
        QuorumLog x = withABase(0, 1);
        CHECKS.due("the base is 2", x.base(1), 2);
        CHECKS.due("NEXT is 2, and p 1", x.peer(0, 1), Runs.nextAndMatch(2, 0));
        CHECKS.due("an APPEND", x.heartbeat(0, 1), 3);
        x.deliver(0);
        CHECKS.due("the base stays", x.base(1), 2);
        CHECKS.due("the last stays", x.last(1), 2);
        CHECKS.due("the commit stays", x.commit(1), 2);
        x.deliver(0);
        CHECKS.due("yes, and 2", x.peer(0, 1), Runs.nextAndMatch(3, 2));
    }

    private static void anAppendBelowABaseWithAnEntryBehind() {
        CHECKS.at("Terms: if p is less than its base: yes, and its base");
        QuorumLog x = withABase(1, 2);
        CHECKS.due("the base is 2", x.base(1), 2);
        CHECKS.due("the last is 3", x.last(1), 3);
        CHECKS.due("NEXT is 2, and p 1", x.peer(0, 1), Runs.nextAndMatch(2, 0));
        x.heartbeat(0, 1);
        x.deliver(0);
        CHECKS.due("entry 3 stays", x.commandAt(1, 3), 3);
        x.deliver(0);
        CHECKS.due("yes, and 2, not 3", x.peer(0, 1), Runs.nextAndMatch(3, 2));
    }

    private static void anAppendFarBelowTheBase() {
        CHECKS.at("Terms: if p is less than its base: yes, and its base");
        QuorumLog x = withABase(0, 2);
        CHECKS.due("NEXT is 1, and p 0", x.peer(0, 1), Runs.nextAndMatch(1, 0));
        CHECKS.due("an APPEND", x.heartbeat(0, 1), 3);
        x.deliver(0);
        CHECKS.due("the last stays", x.last(1), 2);
        x.deliver(0);
        CHECKS.due("yes, and 2, not 1", x.peer(0, 1), Runs.nextAndMatch(3, 2));
    }

    private static void anAppendAtTheBase() {
        CHECKS.at("Terms: if p is less than its base");
        QuorumLog x = withABase(0, 0);
        x.propose(0, 3);
        CHECKS.due("NEXT is 3, and p 2", x.peer(0, 1), Runs.nextAndMatch(3, 0));
        x.heartbeat(0, 1);
        x.deliver(0);
        CHECKS.due("the entry came behind the base", x.commandAt(1, 3), 3);
        CHECKS.due("the last", x.last(1), 3);
        x.deliver(0);
        CHECKS.due("yes, and 3", x.peer(0, 1), Runs.nextAndMatch(4, 3));
    }

    /**
     * Leader 0 of term 2 has the entries 1 to 3 of term 1, node 1 has the first; so NEXT of it is 4,
     * less 1 for each heartbeat that it refuses.
     */
    private static QuorumLog ahead(int refusals) {
        QuorumLog x = Runs.led(3, 4, 8, 0);
        for (int i = 1; i <= 3; i++) {
            x.propose(0, i);
        }
        Runs.beat(x, 0, 1);
        Runs.bounce(x, 0);
        Runs.elect(x, 0);
        for (int i = 0; i < refusals; i++) {
            Runs.beat(x, 0, 1);
        }
        return x;
    }

    private static void anAppendFarBehindTheLast() {
        CHECKS.at("Terms: If p is greater than its last, or the term at p is not q: no, and 0");
        QuorumLog x = ahead(0);
        CHECKS.due("NEXT is 4, and p 3", x.peer(0, 1), Runs.nextAndMatch(4, 0));
        x.heartbeat(0, 1);
        x.deliver(0);
        CHECKS.due("the last stays", x.last(1), 1);
        x.deliver(0);
        CHECKS.due("no", x.peer(0, 1), Runs.nextAndMatch(3, 0));
    }

    private static void anAppendOneBehindTheLast() {
        CHECKS.at("Terms: If p is greater than its last, or the term at p is not q: no, and 0");
        QuorumLog x = ahead(1);
        CHECKS.due("NEXT is 3, and p 2", x.peer(0, 1), Runs.nextAndMatch(3, 0));
        x.heartbeat(0, 1);
        x.deliver(0);
        CHECKS.due("entry 3 did not come", x.last(1), 1);
        CHECKS.due("the commit stays", x.commit(1), 0);
        x.deliver(0);
        CHECKS.due("no", x.peer(0, 1), Runs.nextAndMatch(2, 0));
    }

    private static void anAppendAtTheLast() {
        CHECKS.at("Terms: If p is greater than its last");
        QuorumLog x = ahead(2);
        CHECKS.due("NEXT is 2, and p 1", x.peer(0, 1), Runs.nextAndMatch(2, 0));
        x.heartbeat(0, 1);
        x.deliver(0);
        CHECKS.due("entry 2 came", x.commandAt(1, 2), 2);
        x.deliver(0);
        CHECKS.due("yes, and 2", x.peer(0, 1), Runs.nextAndMatch(3, 2));
    }

    /**
     * All have entry 1 of term 1. Node 0 has 2 and 3 of term 1, too; leader 1 of term 2 has 2 to 4 of
     * term 2, led by node 2's vote. It is elected again, in term 3, if its NEXT is to begin at 5.
     */
    private static QuorumLog differing(int cap, boolean again) {
        QuorumLog x = Runs.led(3, cap, 8, 0);
        x.propose(0, 11);
        Runs.beat(x, 0, 1);
        Runs.beat(x, 0, 2);
        x.propose(0, 12);
        x.propose(0, 13);
        Runs.electBy(x, 1, 2);
        for (int i = 2; i <= cap && i <= 4; i++) {
            x.propose(1, 20 + i);
        }
        if (again) {
            Runs.bounce(x, 1);
            Runs.electBy(x, 1, 2);
        }
        return x;
    }

    private static void anAppendWithAnotherTermAtTheLast() {
        CHECKS.at("Terms: or the term at p is not q: no, and 0");
        QuorumLog x = differing(4, true);
        Runs.beat(x, 1, 0);
        CHECKS.due("p 4 is behind the last", x.peer(1, 0), Runs.nextAndMatch(4, 0));
        x.heartbeat(1, 0);
        x.deliver(0);
        CHECKS.due("p 3 is the last, of another term", x.termAt(0, 3), 1);
        CHECKS.due("nothing goes and nothing comes", x.last(0), 3);
        CHECKS.due("the commit stays", x.commit(0), 1);
        x.deliver(0);
        CHECKS.due("no", x.peer(1, 0), Runs.nextAndMatch(3, 0));
    }

    private static void anAppendWithAnotherTermInTheMidst() {
        CHECKS.at("Terms: or the term at p is not q: no, and 0");
        QuorumLog x = differing(4, true);
        Runs.beat(x, 1, 0);
        Runs.beat(x, 1, 0);
        CHECKS.due("NEXT is 3, and p 2", x.peer(1, 0), Runs.nextAndMatch(3, 0));
        x.heartbeat(1, 0);
        x.deliver(0);
        CHECKS.due("entry 3, which differs, stays", x.commandAt(0, 3), 13);
        CHECKS.due("the last stays", x.last(0), 3);
        x.deliver(0);
        CHECKS.due("no", x.peer(1, 0), Runs.nextAndMatch(2, 0));
        Runs.beat(x, 1, 0);
        CHECKS.due("p 1 is of the same term: yes, and 2", x.peer(1, 0), Runs.nextAndMatch(3, 2));
    }

    private static void anAppendWithoutAnEntry() {
        CHECKS.at("Terms: Otherwise it HAS p");
        QuorumLog x = Runs.led(3, 4, 8, 0);
        Runs.beat(x, 0, 1);
        CHECKS.due("p 0: yes, and 0", x.peer(0, 1), Runs.nextAndMatch(1, 0));
        CHECKS.due("nothing came", x.last(1), 0);
        QuorumLog y = ahead(3);
        Runs.beat(y, 0, 1);
        CHECKS.due("node 1 has all three", y.peer(0, 1), Runs.nextAndMatch(4, 3));
        Runs.bounce(y, 0);
        Runs.elect(y, 0);
        CHECKS.due("a new term", y.peer(0, 1), Runs.nextAndMatch(4, 0));
        Runs.beat(y, 0, 1);
        CHECKS.due("p 3: yes, and 3", y.peer(0, 1), Runs.nextAndMatch(4, 3));
    }

    /** An APPEND that was sent before entry 1 was there comes behind the one that bears it. */
    private static void anAppendWithoutAnEntryBelowTheLast() {
        CHECKS.at("Terms: if there is an entry: if it has one with the number p + 1");
        QuorumLog x = Runs.led(3, 4, 8, 0);
        x.heartbeat(0, 1);
        x.propose(0, 5);
        x.heartbeat(0, 1);
        x.deliver(1);
        x.drop(1);
        CHECKS.due("entry 1 is there", x.last(1), 1);
        x.deliver(0);
        CHECKS.due("it stays", x.last(1), 1);
        x.deliver(0);
        CHECKS.due("yes, and p alone", x.peer(0, 1), Runs.nextAndMatch(1, 0));
    }

    private static void anEntryOfAnotherTermAtTheLast() {
        CHECKS.at("Terms: with the number p + 1 and another term, this and all behind it go");
        QuorumLog x = Runs.led(3, 4, 8, 0);
        x.propose(0, 11);
        Runs.electBy(x, 1, 2);
        x.propose(1, 21);
        x.heartbeat(1, 0);
        x.deliver(0);
        CHECKS.due("the last", x.last(0), 1);
        CHECKS.due("its term", x.termAt(0, 1), 2);
        CHECKS.due("its command", x.commandAt(0, 1), 21);
        x.deliver(0);
        CHECKS.due("yes, and 1", x.peer(1, 0), Runs.nextAndMatch(2, 1));
    }

    private static void anEntryOfAnotherTermBeforeOthers() {
        CHECKS.at("Terms: with the number p + 1 and another term, this and all behind it go");
        QuorumLog x = differing(4, false);
        CHECKS.due("NEXT is 2, and p 1", x.peer(1, 0), Runs.nextAndMatch(2, 0));
        x.heartbeat(1, 0);
        x.deliver(0);
        CHECKS.due("entry 1 stays", x.commandAt(0, 1), 11);
        CHECKS.due("entry 2 is another", x.commandAt(0, 2), 22);
        CHECKS.due("its term", x.termAt(0, 2), 2);
        CHECKS.due("entry 3 went", x.last(0), 2);
        CHECKS.due("no term at 3", x.termAt(0, 3), QuorumLog.BAD);
        CHECKS.due("the commit stays", x.commit(0), 1);
    }

    private static void anEntryOfTheSameTermBeforeOthers() {
        CHECKS.at("Terms: if it has none with that number then");
        QuorumLog x = Runs.led(3, 4, 8, 0);
        x.propose(0, 1);
        x.propose(0, 2);
        x.heartbeat(0, 1);
        x.duplicate(0);
        x.deliver(0);
        x.deliver(0);
        Runs.beatSlot(x, 0, 1, 0);
        CHECKS.due("both are there", x.last(1), 2);
        x.deliver(1);
        CHECKS.due("both stay", x.last(1), 2);
        CHECKS.due("the first", x.commandAt(1, 1), 1);
        CHECKS.due("the second", x.commandAt(1, 2), 2);
    }

    private static void anEntryForAnEmptyLog() {
        CHECKS.at("Terms: the entry comes behind");
        QuorumLog x = Runs.led(3, 4, 8, 0);
        x.propose(0, 7);
        x.heartbeat(0, 1);
        x.deliver(0);
        CHECKS.due("the last", x.last(1), 1);
        CHECKS.due("its term", x.termAt(1, 1), 1);
        CHECKS.due("its command", x.commandAt(1, 1), 7);
    }

    /** The base of leader 0 is the cap, and it has one entry more; node 1 has all but that, and no base. */
    private static QuorumLog fullFollower(int cap) {
        QuorumLog x = Runs.led(3, cap, 8, 0);
        for (int i = 1; i <= cap; i++) {
            x.propose(0, i);
            Runs.beat(x, 0, 1);
        }
        x.compact(0);
        x.propose(0, cap + 1);
        return x;
    }

    private static void anEntryForALogWithOnePlace() {
        CHECKS.at("Terms: and its log is not full, the entry comes behind");
        for (int cap = 1; cap <= 12; cap += 11) {
            QuorumLog x = Runs.led(3, cap, 8, 0);
            for (int i = 1; i <= cap; i++) {
                x.propose(0, i);
                Runs.beat(x, 0, 1);
                CHECKS.due("it has " + i, x.peer(0, 1), Runs.nextAndMatch(i + 1, i));
            }
            CHECKS.due("the last place is taken", x.commandAt(1, cap), cap);
        }
    }

    private static void anEntryForAFullLog() {
        CHECKS.at("Terms: now it has p + 1, if there is an entry with that number");
        for (int cap = 1; cap <= 12; cap += 11) {
            QuorumLog x = fullFollower(cap);
            CHECKS.due("NEXT", x.peer(0, 1), Runs.nextAndMatch(cap + 1, cap));
            x.heartbeat(0, 1);
            x.deliver(0);
            CHECKS.due("it did not come", x.last(1), cap);
            CHECKS.due("no term at it", x.termAt(1, cap + 1), QuorumLog.BAD);
            x.deliver(0);
            CHECKS.due("yes, and p", x.peer(0, 1), Runs.nextAndMatch(cap + 1, cap));
            CHECKS.due("it is not committed", x.commit(0), cap);
            CHECKS.due("room", x.compact(1), cap);
            Runs.beat(x, 0, 1);
            CHECKS.due("now it came", x.commandAt(1, cap + 1), cap + 1);
            CHECKS.due("yes, and p + 1", x.peer(0, 1), Runs.nextAndMatch(cap + 2, cap + 1));
        }
    }

    /** The leader does not know that the entry came: the answer to the first APPEND is lost. */
    private static void anEntryThatAFullLogHas() {
        CHECKS.at("Terms: now it has p + 1, if there is an entry with that number");
        QuorumLog x = Runs.led(3, 1, 8, 0);
        x.propose(0, 5);
        x.heartbeat(0, 1);
        x.deliver(0);
        x.drop(0);
        CHECKS.due("the log is full", x.last(1), 1);
        x.heartbeat(0, 1);
        x.deliver(0);
        CHECKS.due("the entry stays", x.commandAt(1, 1), 5);
        x.deliver(0);
        CHECKS.due("yes, and p + 1", x.peer(0, 1), Runs.nextAndMatch(2, 1));
    }

    private static void anEntryThatTakesAPlaceInAFullLog() {
        CHECKS.at("Terms: if it has none with that number then, and its log is not full");
        QuorumLog x = differing(3, false);
        CHECKS.due("the log is full", x.last(0), 3);
        x.heartbeat(1, 0);
        x.deliver(0);
        CHECKS.due("two went, one came", x.last(0), 2);
        CHECKS.due("its command", x.commandAt(0, 2), 22);
        x.deliver(0);
        CHECKS.due("yes, and p + 1", x.peer(1, 0), Runs.nextAndMatch(3, 2));
        Runs.beat(x, 1, 0);
        CHECKS.due("full again", x.commandAt(0, 3), 23);
    }

    /** Leader 0 has four entries, of which three are committed by node 1; node 2 has none. */
    private static QuorumLog threeCommitted() {
        QuorumLog x = Runs.led(3, 4, 8, 0);
        for (int i = 1; i <= 4; i++) {
            x.propose(0, i);
        }
        for (int i = 0; i < 3; i++) {
            Runs.beat(x, 0, 1);
        }
        return x;
    }

    private static void aCommitThatIsLessThanWhatItHas() {
        CHECKS.at("Terms: The commit becomes the lesser of c and what it has");
        QuorumLog x = threeCommitted();
        CHECKS.due("before", x.commit(1), 2);
        x.heartbeat(0, 1);
        x.deliver(0);
        CHECKS.due("it has 4", x.last(1), 4);
        CHECKS.due("c is 3", x.commit(1), 3);
    }

    private static void aCommitThatIsWhatItHas() {
        CHECKS.at("Terms: The commit becomes the lesser of c and what it has");
        QuorumLog x = threeCommitted();
        Runs.beat(x, 0, 1);
        x.heartbeat(0, 1);
        x.deliver(0);
        CHECKS.due("c is 4, and it has 4", x.commit(1), 4);
    }

    private static void aCommitThatIsMoreThanWhatItHas() {
        CHECKS.at("Terms: The commit becomes the lesser of c and what it has");
        QuorumLog x = threeCommitted();
        for (int i = 1; i <= 3; i++) {
            Runs.beat(x, 0, 2);
            CHECKS.due("c is 3, and it has " + i, x.commit(2), i);
        }
        Runs.beat(x, 0, 2);
        CHECKS.due("c is 3, and it has 4", x.commit(2), 3);
    }

    /** Node 2 has room for entry 3 and node 1 has not; entry 3 is committed by node 2. */
    private static void aCommitThatIsMoreThanAFullLogHas() {
        CHECKS.at("Terms: The commit becomes the lesser of c and what it has");
        QuorumLog x = fullFollower(2);
        Runs.beat(x, 0, 2);
        Runs.beat(x, 0, 2);
        CHECKS.due("the leader's commit", x.commit(0), 3);
        CHECKS.due("before", x.commit(1), 1);
        x.heartbeat(0, 1);
        x.deliver(0);
        CHECKS.due("c is 3, and it has 2", x.commit(1), 2);
    }

    private static void aCommitThatIsNotGreater() {
        CHECKS.at("Terms: if that is greater");
        QuorumLog x = Runs.led(3, 4, 8, 0);
        x.propose(0, 1);
        x.heartbeat(0, 1);
        x.duplicate(0);
        x.deliver(0);
        x.deliver(0);
        Runs.beatSlot(x, 0, 1, 0);
        CHECKS.due("before", x.commit(1), 1);
        Runs.beatSlot(x, 0, 1, 0);
        CHECKS.due("c is 1 again", x.commit(1), 1);
        x.deliver(1);
        CHECKS.due("c is 0", x.commit(1), 1);
    }
}
