/** The edges that promises 6 to 8, 21 and 22 name, and the slots of 'Terms': each sentence by itself. */
public final class NetEdgesTest {
    private static final Checks CHECKS = new Checks("NetEdgesTest");

    public static void main(String[] args) {
        deliverFromNoSlot();
        deliverFromAFreeSlot();
        deliverFromTheLastSlot();
        anAskToANodeThatIsDown();
        aVoteToANodeThatIsDown();
        anAppendToANodeThatIsDown();
        anAppendedToANodeThatIsDown();
        aSnapshotToANodeThatIsDown();
        dropFromNoSlot();
        dropFromAFreeSlot();
        dropFromTheLastSlot();
        duplicateOfNoSlot();
        duplicateOfAFreeSlot();
        duplicateWithoutAFreeSlot();
        duplicateIntoTheLastFreeSlot();
        pendingOfNone();
        pendingOfAll();
        slotWithNothing();
        slotThatIsNone();
        slotWithTheGreatestNumbers();
        asksTakeTheLowestFreeSlots();
        heartbeatsTakeTheLowestFreeSlot();
        copiesTakeTheLowestFreeSlot();
        answersTakeTheLowestFreeSlot();
        anAnswerTakesItsOwnSlotWhenAllOthersAreTaken();
        messagesWithoutAnswerLeaveTheirSlotFree();
        CHECKS.end();
    }

    /** Leader 0 of three nodes, and APPENDs to node 1 in the slots 0 to 2 of eight. */
    private static QuorumLog withThree() {
        return ledWith(3);
    }

    private static QuorumLog ledWith(int messages) {
        QuorumLog x = Runs.led(3, 4, 8, 0);
        Runs.fill(x, messages);
        return x;
    }

    private static void deliverFromNoSlot() {
        CHECKS.at("6: BAD when there is no such slot");
        for (int slot : Runs.NO_SLOTS) {
            Twins.refused(CHECKS, () -> withThree(), x -> x.deliver(slot), QuorumLog.BAD);
        }
        Twins.refused(CHECKS, () -> ledWith(8), x -> x.deliver(8), QuorumLog.BAD);
    }

    private static void deliverFromAFreeSlot() {
        CHECKS.at("6: EMPTY");
        for (int slot = 3; slot < 8; slot++) {
            int free = slot;
            Twins.refused(CHECKS, () -> withThree(), x -> x.deliver(free), QuorumLog.EMPTY);
        }
        Twins.refused(CHECKS, () -> new QuorumLog(3, 4, 8), x -> x.deliver(0), QuorumLog.EMPTY);
        QuorumLog x = withThree();
        x.drop(1);
        CHECKS.due("one that was taken", x.deliver(1), QuorumLog.EMPTY);
    }

    private static void deliverFromTheLastSlot() {
        CHECKS.at("6: Delivers the message in a slot");
        int[] sizes = {8, 9, 40};
        for (int size : sizes) {
            QuorumLog x = new QuorumLog(3, 4, size);
            x.timeout(0);
            while (x.pending() < size) {
                x.duplicate(1);
            }
            CHECKS.due("its kind", x.deliver(size - 1), 1);
            CHECKS.due("node 2 got it", x.vote(2), 0);
            CHECKS.due("behind it", x.deliver(size), QuorumLog.BAD);
        }
    }

    private static void anAskToANodeThatIsDown() {
        CHECKS.at("6: it is gone, too, if the node it goes to is down");
        QuorumLog x = new QuorumLog(3, 4, 8);
        x.timeout(0);
        x.crash(1);
        CHECKS.due("its kind", x.deliver(0), 1);
        goneFrom(x, 0, 1);
        CHECKS.due("the term stays", x.term(1), 0);
        CHECKS.due("the vote stays", x.vote(1), QuorumLog.BAD);
        x.restart(1);
        CHECKS.due("a restart does not bring it back", x.term(1), 0);
    }

    private static void goneFrom(QuorumLog x, int slot, int left) {
        CHECKS.due("the slot has nothing", x.slot(slot), 0);
        CHECKS.due("there is no answer", x.pending(), left);
        CHECKS.due("it can't be delivered again", x.deliver(slot), QuorumLog.EMPTY);
    }

    private static void aVoteToANodeThatIsDown() {
        CHECKS.at("6: it is gone, too, if the node it goes to is down");
        QuorumLog x = new QuorumLog(3, 4, 8);
        x.timeout(0);
        x.timeout(1);
        x.timeout(1);
        x.deliver(5);
        x.deliver(1);
        CHECKS.due("a VOTE of term 2 to a candidate of term 1", x.slot(1), Runs.message(2, 2, 0, 2));
        x.crash(0);
        int before = x.pending();
        CHECKS.due("its kind", x.deliver(1), 2);
        goneFrom(x, 1, before - 1);
        CHECKS.due("the term stays", x.term(0), 1);
        CHECKS.due("the vote stays", x.vote(0), 0);
    }

    private static void anAppendToANodeThatIsDown() {
        CHECKS.at("6: it is gone, too, if the node it goes to is down");
        QuorumLog x = Runs.led(3, 4, 8, 0);
        x.propose(0, 5);
        x.heartbeat(0, 1);
        x.crash(1);
        CHECKS.due("its kind", x.deliver(0), 3);
        goneFrom(x, 0, 0);
        CHECKS.due("no entry came", x.last(1), 0);
        x.restart(1);
        CHECKS.due("nor after a restart", x.last(1), 0);
    }

    private static void anAppendedToANodeThatIsDown() {
        CHECKS.at("6: it is gone, too, if the node it goes to is down");
        QuorumLog x = Runs.led(3, 4, 8, 0);
        x.propose(0, 5);
        x.heartbeat(0, 1);
        x.timeout(1);
        x.deliver(0);
        CHECKS.due("an APPENDED of term 2 to a leader of term 1", x.slot(0), Runs.message(4, 1, 0, 2));
        x.crash(0);
        CHECKS.due("its kind", x.deliver(0), 4);
        goneFrom(x, 0, 2);
        CHECKS.due("the term stays", x.term(0), 1);
        CHECKS.due("the vote stays", x.vote(0), 0);
    }

    private static void aSnapshotToANodeThatIsDown() {
        CHECKS.at("6: it is gone, too, if the node it goes to is down");
        QuorumLog x = Runs.led(3, 4, 8, 0);
        x.propose(0, 5);
        Runs.beat(x, 0, 1);
        x.compact(0);
        x.heartbeat(0, 2);
        x.crash(2);
        CHECKS.due("its kind", x.deliver(0), 5);
        goneFrom(x, 0, 0);
        CHECKS.due("the base stays", x.base(2), 0);
        CHECKS.due("the commit stays", x.commit(2), 0);
    }

    private static void dropFromNoSlot() {
        CHECKS.at("7: BAD");
        for (int slot : Runs.NO_SLOTS) {
            Twins.refused(CHECKS, () -> withThree(), x -> x.drop(slot), QuorumLog.BAD);
        }
    }

    private static void dropFromAFreeSlot() {
        CHECKS.at("7: EMPTY");
        for (int slot = 3; slot < 8; slot++) {
            int free = slot;
            Twins.refused(CHECKS, () -> withThree(), x -> x.drop(free), QuorumLog.EMPTY);
        }
        QuorumLog x = withThree();
        CHECKS.due("the first time", x.drop(1), 0);
        CHECKS.due("again", x.drop(1), QuorumLog.EMPTY);
        CHECKS.due("pending", x.pending(), 2);
    }

    private static void dropFromTheLastSlot() {
        CHECKS.at("7: The message in a slot is lost: 0");
        QuorumLog x = ledWith(8);
        CHECKS.due("the last", x.drop(7), 0);
        CHECKS.due("behind it", x.drop(8), QuorumLog.BAD);
        CHECKS.due("the first", x.drop(0), 0);
        CHECKS.due("pending", x.pending(), 6);
        CHECKS.due("the last has nothing", x.slot(7), 0);
        CHECKS.due("the first has nothing", x.slot(0), 0);
    }

    private static void duplicateOfNoSlot() {
        CHECKS.at("8: BAD");
        for (int slot : Runs.NO_SLOTS) {
            Twins.refused(CHECKS, () -> withThree(), x -> x.duplicate(slot), QuorumLog.BAD);
            Twins.refused(CHECKS, () -> ledWith(8), x -> x.duplicate(slot), QuorumLog.BAD);
        }
    }

    private static void duplicateOfAFreeSlot() {
        CHECKS.at("8: EMPTY");
        for (int slot = 3; slot < 8; slot++) {
            int free = slot;
            Twins.refused(CHECKS, () -> withThree(), x -> x.duplicate(free), QuorumLog.EMPTY);
        }
        Twins.refused(CHECKS, () -> new QuorumLog(3, 4, 8), x -> x.duplicate(7), QuorumLog.EMPTY);
    }

    private static void duplicateWithoutAFreeSlot() {
        CHECKS.at("8: FULL");
        for (int slot = 0; slot < 8; slot++) {
            int taken = slot;
            Twins.refused(CHECKS, () -> ledWith(8), x -> x.duplicate(taken), QuorumLog.FULL);
        }
    }

    private static void duplicateIntoTheLastFreeSlot() {
        CHECKS.at("8: A message like that in a slot is sent: its slot");
        QuorumLog x = ledWith(7);
        CHECKS.due("the last slot", x.duplicate(0), 7);
        CHECKS.due("alike", x.slot(7), Runs.message(3, 0, 1, 1));
        CHECKS.due("all are taken", x.pending(), 8);
        CHECKS.due("one too many", x.duplicate(7), QuorumLog.FULL);
        x.drop(0);
        CHECKS.due("of the last into the first", x.duplicate(7), 0);
    }

    private static void pendingOfNone() {
        CHECKS.at("21: How many messages wait");
        QuorumLog x = new QuorumLog(3, 4, 8);
        CHECKS.due("at first", x.pending(), 0);
        x.deliver(0);
        x.drop(0);
        x.duplicate(0);
        CHECKS.due("after refused calls", x.pending(), 0);
        x.timeout(0);
        CHECKS.due("after two ASKs", x.pending(), 2);
        Runs.settle(x);
        CHECKS.due("when all are delivered", x.pending(), 0);
        x.heartbeat(0, 1);
        x.drop(0);
        CHECKS.due("when the only one is lost", x.pending(), 0);
    }

    private static void pendingOfAll() {
        CHECKS.at("21: How many messages wait");
        int[] sizes = {8, 40};
        for (int size : sizes) {
            QuorumLog x = new QuorumLog(5, 4, size);
            x.timeout(0);
            for (int i = 4; i < size; i++) {
                CHECKS.due("before a copy", x.pending(), i);
                x.duplicate(0);
            }
            CHECKS.due("in all slots", x.pending(), size);
            x.duplicate(0);
            CHECKS.due("after one that found no room", x.pending(), size);
            x.deliver(size - 1);
            CHECKS.due("an answer in place of an ASK", x.pending(), size);
        }
    }

    private static void slotWithNothing() {
        CHECKS.at("22: 0 when nothing");
        QuorumLog x = withThree();
        for (int slot = 3; slot < 8; slot++) {
            CHECKS.due("never taken", x.slot(slot), 0);
        }
        x.drop(0);
        CHECKS.due("lost", x.slot(0), 0);
        x.deliver(1);
        CHECKS.due("delivered, the answer lower", x.slot(1), 0);
        CHECKS.due("the answer", x.slot(0), Runs.message(4, 1, 0, 1));
    }

    private static void slotThatIsNone() {
        CHECKS.at("22: BAD when there is no such slot");
        QuorumLog x = ledWith(8);
        for (int slot : Runs.NO_SLOTS) {
            CHECKS.due("slot(" + slot + ")", x.slot(slot), QuorumLog.BAD);
        }
        CHECKS.due("the first", x.slot(0), Runs.message(3, 0, 1, 1));
        CHECKS.due("the last", x.slot(7), Runs.message(3, 0, 1, 1));
        QuorumLog y = new QuorumLog(3, 4, 40);
        CHECKS.due("the last of 40", y.slot(39), 0);
        CHECKS.due("behind it", y.slot(40), QuorumLog.BAD);
    }

    private static void slotWithTheGreatestNumbers() {
        CHECKS.at("22: the kind, plus 8 times the sender, plus 64 times the receiver, plus 512 times the term");
        QuorumLog x = new QuorumLog(5, 4, 8);
        for (int term = 1; term <= 60; term++) {
            x.timeout(4);
            for (int slot = 0; slot < 3; slot++) {
                x.drop(slot);
            }
            CHECKS.due("from 4 to 3", x.slot(3), 1 + 8 * 4 + 64 * 3 + 512 * term);
            x.drop(3);
        }
        x.timeout(0);
        CHECKS.due("from 0 to 4", x.slot(3), 1 + 64 * 4 + 512);
    }

    private static void asksTakeTheLowestFreeSlots() {
        CHECKS.at("Terms: one that is sent takes the lowest free slot");
        QuorumLog x = ledWith(6);
        x.drop(4);
        x.drop(1);
        CHECKS.due("timeout", x.timeout(2), 0);
        CHECKS.due("the first ASK", x.slot(1), Runs.message(1, 2, 0, 2));
        CHECKS.due("the second", x.slot(4), Runs.message(1, 2, 1, 2));
        CHECKS.due("none behind", x.slot(6), 0);
    }

    private static void heartbeatsTakeTheLowestFreeSlot() {
        CHECKS.at("Terms: one that is sent takes the lowest free slot");
        QuorumLog x = ledWith(8);
        x.drop(7);
        x.drop(3);
        x.heartbeat(0, 2);
        CHECKS.due("the lower of two", x.slot(3), Runs.message(3, 0, 2, 1));
        CHECKS.due("the other is free", x.slot(7), 0);
        x.heartbeat(0, 2);
        CHECKS.due("then the last", x.slot(7), Runs.message(3, 0, 2, 1));
    }

    private static void copiesTakeTheLowestFreeSlot() {
        CHECKS.at("Terms: one that is sent takes the lowest free slot");
        QuorumLog x = ledWith(6);
        x.drop(0);
        x.drop(2);
        CHECKS.due("of one behind it", x.duplicate(5), 0);
        CHECKS.due("of one before it", x.duplicate(0), 2);
        CHECKS.due("behind all", x.duplicate(1), 6);
    }

    private static void answersTakeTheLowestFreeSlot() {
        CHECKS.at("Terms: one that is sent takes the lowest free slot");
        QuorumLog x = ledWith(6);
        x.drop(2);
        x.deliver(4);
        CHECKS.due("a lower one than its own", x.slot(2), Runs.message(4, 1, 0, 1));
        CHECKS.due("its own is free", x.slot(4), 0);
        x.deliver(1);
        CHECKS.due("its own, though a higher one is free", x.slot(1), Runs.message(4, 1, 0, 1));
        CHECKS.due("that is free", x.slot(4), 0);
    }

    private static void anAnswerTakesItsOwnSlotWhenAllOthersAreTaken() {
        CHECKS.at("Terms: There is always room for an answer");
        for (int slot = 0; slot < 8; slot++) {
            QuorumLog x = ledWith(8);
            CHECKS.due("deliver", x.deliver(slot), 3);
            CHECKS.due("its answer", x.slot(slot), Runs.message(4, 1, 0, 1));
            CHECKS.due("all are taken", x.pending(), 8);
        }
    }

    private static void messagesWithoutAnswerLeaveTheirSlotFree() {
        CHECKS.at("Terms: A message that gets no answer by this is gone");
        QuorumLog x = new QuorumLog(3, 4, 8);
        x.timeout(0);
        x.deliver(0);
        CHECKS.due("a VOTE", x.deliver(0), 2);
        CHECKS.due("its slot", x.slot(0), 0);
        CHECKS.due("pending", x.pending(), 1);
        x.drop(1);
        x.heartbeat(0, 1);
        x.deliver(0);
        CHECKS.due("an APPENDED", x.deliver(0), 4);
        CHECKS.due("its slot", x.slot(0), 0);
        CHECKS.due("pending", x.pending(), 0);
    }
}
