/** Promises 6, 7, 8, 21 and 22: messages in slots, delivered, lost, copied and counted. */
public final class NetTest {
    private static final Checks CHECKS = new Checks("NetTest");

    public static void main(String[] args) {
        deliverAnswersTheKind();
        deliverIsRefused();
        aMessageToANodeThatIsDownIsGone();
        answersTakeTheLowestFreeSlot();
        thereIsAlwaysRoomForAnAnswer();
        dropLosesOneMessage();
        dropIsRefused();
        duplicateSendsALikeMessage();
        aCopyBearsAllThatTheFirstBears();
        duplicateIsRefused();
        pendingCounts();
        slotTellsAllParts();
        slotIsRefused();
        CHECKS.end();
    }

    private static void deliverAnswersTheKind() {
        QuorumLog x = new QuorumLog(3, 4, 8);
        x.timeout(0);
        x.drop(1);
        CHECKS.due("ASK", x.deliver(0), 1);
        CHECKS.due("VOTE", x.deliver(0), 2);
        x.propose(0, 1);
        x.heartbeat(0, 1);
        CHECKS.due("APPEND", x.deliver(0), 3);
        CHECKS.due("APPENDED", x.deliver(0), 4);
        x.compact(0);
        x.heartbeat(0, 2);
        CHECKS.due("SNAPSHOT", x.deliver(0), 5);
        CHECKS.due("APPENDED", x.deliver(0), 4);
        CHECKS.due("nothing is left", x.pending(), 0);
    }

    private static void deliverIsRefused() {
        QuorumLog x = new QuorumLog(3, 4, 9);
        x.timeout(0);
        for (int odd : Runs.ODD_NUMBERS) {
            CHECKS.due("deliver(" + odd + ")", x.deliver(odd), QuorumLog.BAD);
        }
        CHECKS.due("deliver behind the last slot", x.deliver(9), QuorumLog.BAD);
        CHECKS.due("deliver from the last slot", x.deliver(8), QuorumLog.EMPTY);
        CHECKS.due("deliver from a free slot", x.deliver(2), QuorumLog.EMPTY);
        CHECKS.due("pending", x.pending(), 2);
    }

    private static void aMessageToANodeThatIsDownIsGone() {
        QuorumLog x = new QuorumLog(3, 4, 8);
        x.timeout(0);
        x.crash(1);
        CHECKS.due("deliver an ASK to a node that is down", x.deliver(0), 1);
        CHECKS.due("the slot is free", x.slot(0), 0);
        CHECKS.due("no answer", x.pending(), 1);
        CHECKS.due("its term stays", x.term(1), 0);
        CHECKS.due("its vote stays", x.vote(1), QuorumLog.BAD);
        CHECKS.due("it can't be delivered again", x.deliver(0), QuorumLog.EMPTY);
        x.deliver(1);
        x.deliver(0);
        x.propose(0, 1);
        Runs.beat(x, 0, 2);
        x.compact(0);
        x.heartbeat(0, 1);
        CHECKS.due("a SNAPSHOT", x.deliver(0), 5);
        CHECKS.due("its base stays", x.base(1), 0);
        x.heartbeat(0, 2);
        x.deliver(0);
        x.crash(0);
        CHECKS.due("an APPENDED", x.deliver(0), 4);
        CHECKS.due("nothing is left", x.pending(), 0);
    }

    private static void answersTakeTheLowestFreeSlot() {
        QuorumLog x = new QuorumLog(4, 4, 8);
        x.timeout(0);
        x.drop(0);
        CHECKS.due("deliver slot 2", x.deliver(2), 1);
        CHECKS.due("its answer is in slot 0", x.slot(0), Runs.message(2, 3, 0, 1));
        CHECKS.due("slot 2 is free", x.slot(2), 0);
        CHECKS.due("deliver slot 1", x.deliver(1), 1);
        CHECKS.due("its answer is in slot 1", x.slot(1), Runs.message(2, 2, 0, 1));
    }

    private static void thereIsAlwaysRoomForAnAnswer() {
        QuorumLog x = Runs.led(3, 4, 8, 0);
        x.propose(0, 6);
        for (int i = 0; i < 8; i++) {
            x.heartbeat(0, 1);
        }
        CHECKS.due("full", x.heartbeat(0, 1), QuorumLog.FULL);
        CHECKS.due("deliver in the midst", x.deliver(4), 3);
        CHECKS.due("the answer takes its place", x.slot(4), Runs.message(4, 1, 0, 1));
        CHECKS.due("full still", x.pending(), 8);
        CHECKS.due("deliver it", x.deliver(4), 4);
        CHECKS.due("one is free", x.pending(), 7);
    }

    private static void dropLosesOneMessage() {
        QuorumLog x = new QuorumLog(3, 4, 8);
        x.timeout(0);
        CHECKS.due("drop", x.drop(0), 0);
        CHECKS.due("the slot is free", x.slot(0), 0);
        CHECKS.due("the other waits", x.slot(1), Runs.message(1, 0, 2, 1));
        CHECKS.due("the receiver knows nothing", x.term(1), 0);
        CHECKS.due("pending", x.pending(), 1);
        x.timeout(2);
        CHECKS.due("the slot is used again", x.slot(0), Runs.message(1, 2, 0, 1));
    }

    private static void dropIsRefused() {
        QuorumLog x = new QuorumLog(3, 4, 9);
        x.timeout(0);
        for (int odd : Runs.ODD_NUMBERS) {
            CHECKS.due("drop(" + odd + ")", x.drop(odd), QuorumLog.BAD);
        }
        CHECKS.due("drop behind the last slot", x.drop(9), QuorumLog.BAD);
        CHECKS.due("drop from the last slot", x.drop(8), QuorumLog.EMPTY);
        CHECKS.due("drop from a free slot", x.drop(2), QuorumLog.EMPTY);
        x.drop(1);
        CHECKS.due("drop twice", x.drop(1), QuorumLog.EMPTY);
        CHECKS.due("pending", x.pending(), 1);
    }

    private static void duplicateSendsALikeMessage() {
        QuorumLog x = new QuorumLog(3, 4, 8);
        x.timeout(0);
        CHECKS.due("behind the others", x.duplicate(1), 2);
        CHECKS.due("alike", x.slot(2), x.slot(1));
        x.drop(0);
        CHECKS.due("the lowest free slot", x.duplicate(2), 0);
        CHECKS.due("alike", x.slot(0), Runs.message(1, 0, 2, 1));
        CHECKS.due("the first stays", x.slot(2), Runs.message(1, 0, 2, 1));
        CHECKS.due("pending", x.pending(), 3);
        x.timeout(0);
        CHECKS.due("a copy bears the term of then", x.duplicate(0), 5);
        CHECKS.due("not that of now", x.slot(5), Runs.message(1, 0, 2, 1));
    }

    private static void aCopyBearsAllThatTheFirstBears() {
        QuorumLog x = Runs.led(3, 4, 8, 0);
        x.propose(0, 7);
        Runs.beat(x, 0, 1);
        x.heartbeat(0, 2);
        CHECKS.due("copy an APPEND", x.duplicate(0), 1);
        x.drop(0);
        x.deliver(1);
        CHECKS.due("its entry", x.commandAt(2, 1), 7);
        CHECKS.due("its entry's term", x.termAt(2, 1), 1);
        CHECKS.due("its commit", x.commit(2), 1);
        CHECKS.due("copy an APPENDED", x.duplicate(0), 1);
        x.drop(0);
        x.deliver(1);
        CHECKS.due("its yes and its number", x.peer(0, 2), Runs.nextAndMatch(2, 1));
        aCopyOfASnapshot();
        aCopyOfAVote();
    }

    private static void aCopyOfASnapshot() {
        QuorumLog x = Runs.led(3, 4, 8, 0);
        x.propose(0, 7);
        x.propose(0, 8);
        Runs.beat(x, 0, 1);
        Runs.beat(x, 0, 1);
        x.compact(0);
        x.heartbeat(0, 2);
        x.duplicate(0);
        x.drop(0);
        CHECKS.due("deliver the copy", x.deliver(1), 5);
        CHECKS.due("its number", x.base(2), 2);
        CHECKS.due("its term", x.termAt(2, 2), 1);
        CHECKS.due("its state", x.state(2), 7 * 31 + 8);
    }

    private static void aCopyOfAVote() {
        QuorumLog x = new QuorumLog(3, 4, 8);
        x.timeout(0);
        x.duplicate(0);
        x.drop(0);
        x.deliver(2);
        x.duplicate(0);
        x.drop(0);
        CHECKS.due("deliver the copy", x.deliver(2), 2);
        CHECKS.due("it is granted", x.role(0), 6);
    }

    private static void duplicateIsRefused() {
        QuorumLog x = new QuorumLog(3, 4, 9);
        x.timeout(0);
        for (int odd : Runs.ODD_NUMBERS) {
            CHECKS.due("duplicate(" + odd + ")", x.duplicate(odd), QuorumLog.BAD);
        }
        CHECKS.due("duplicate behind the last slot", x.duplicate(9), QuorumLog.BAD);
        CHECKS.due("duplicate of the last slot", x.duplicate(8), QuorumLog.EMPTY);
        CHECKS.due("duplicate of a free slot", x.duplicate(2), QuorumLog.EMPTY);
        for (int i = 2; i < 9; i++) {
            CHECKS.due("duplicate", x.duplicate(i % 2), i);
        }
        CHECKS.due("no room", x.duplicate(8), QuorumLog.FULL);
        CHECKS.due("no slot, no room", x.duplicate(9), QuorumLog.BAD);
        CHECKS.due("pending", x.pending(), 9);
    }

    private static void pendingCounts() {
        QuorumLog x = new QuorumLog(5, 4, 40);
        CHECKS.due("at first", x.pending(), 0);
        for (int node = 0; node < 5; node++) {
            x.timeout(node);
            CHECKS.due("after timeout " + node, x.pending(), 4 * node + 4);
        }
        x.duplicate(3);
        CHECKS.due("after a copy", x.pending(), 21);
        x.deliver(20);
        CHECKS.due("after an ASK and its answer", x.pending(), 21);
        x.deliver(20);
        CHECKS.due("after a VOTE", x.pending(), 20);
        x.drop(7);
        CHECKS.due("after a loss", x.pending(), 19);
        x.drop(7);
        x.deliver(7);
        x.duplicate(7);
        x.drop(40);
        CHECKS.due("after what was refused", x.pending(), 19);
    }

    private static void slotTellsAllParts() {
        QuorumLog x = new QuorumLog(5, 4, 8);
        for (int i = 1; i <= 9; i++) {
            x.timeout(4);
            CHECKS.due("kind, sender, receiver, term", x.slot(3), 1 + 8 * 4 + 64 * 3 + 512 * i);
            CHECKS.due("it is only looked at", x.slot(3), 1 + 8 * 4 + 64 * 3 + 512 * i);
            CHECKS.due("a free one", x.slot(4), 0);
            Runs.dropAll(x);
        }
    }

    private static void slotIsRefused() {
        QuorumLog x = new QuorumLog(3, 4, 9);
        for (int odd : Runs.ODD_NUMBERS) {
            CHECKS.due("slot(" + odd + ")", x.slot(odd), QuorumLog.BAD);
        }
        CHECKS.due("slot behind the last", x.slot(9), QuorumLog.BAD);
        CHECKS.due("the last slot", x.slot(8), 0);
    }
}
