/** Runs of exactly 512 calls, the most that an object is used for, to its greatest terms and numbers. */
public final class LongRunsTest {
    private static final Checks CHECKS = new Checks("LongRunsTest");
    private static final int MOST_CALLS = 512;

    private final QuorumLog object;
    private int calls = 0;

    private LongRunsTest(QuorumLog object) {
        this.object = object;
    }

    public static void main(String[] args) {
        CHECKS.at("What it is: An object is used for at most 512 calls");
        new LongRunsTest(new QuorumLog(3, 12, 40)).theGreatestTerm();
        new LongRunsTest(new QuorumLog(3, 12, 8)).theGreatestNumber();
        new LongRunsTest(new QuorumLog(5, 12, 8)).aLateSnapshot();
        CHECKS.end();
    }

    private void due(String what, int got, int want) {
        calls++;
        CHECKS.due("call " + calls + ", " + what, got, want);
    }

    private void endOfRun() {
        CHECKS.due("calls of the run", calls, MOST_CALLS);
    }

    private void theGreatestTerm() {
        int term = 0;
        while (term < 20) {
            due("timeout", object.timeout(0), 0);
            term++;
        }
        while (calls <= MOST_CALLS - 5) {
            due("drop", object.drop(38), 0);
            due("drop", object.drop(39), 0);
            due("timeout", object.timeout(0), 0);
            term++;
        }
        due("slot", object.slot(39), Runs.message(1, 0, 2, term));
        due("deliver", object.deliver(39), 1);
        due("term", object.term(2), term);
        endOfRun();
    }

    /** Nothing waits then, so that the next message takes slot 0. */
    private void electNodeZero() {
        due("timeout", object.timeout(0), 0);
        due("drop", object.drop(1), 0);
        due("deliver", object.deliver(0), 1);
        due("deliver", object.deliver(0), 2);
    }

    /** A new entry that node 1 gets, too: with it two of three nodes have it. */
    private void enter(int number, int command) {
        due("propose", object.propose(0, command), number);
        carry(1, 3);
    }

    private void carry(int peer, int kind) {
        due("heartbeat", object.heartbeat(0, peer), kind);
        due("deliver", object.deliver(0), kind);
        due("deliver", object.deliver(0), 4);
    }

    private void theGreatestNumber() {
        electNodeZero();
        int state = 0;
        int number = 0;
        for (int round = 0; round < 11; round++) {
            for (int i = 0; i < 11; i++) {
                number++;
                int command = 1000003 * number;
                enter(number, command);
                state = 31 * state + command;
            }
            due("compact", object.compact(0), 11);
            // Node 1 hears of a commit by the APPEND that follows.
            due("compact", object.compact(1), round == 0 ? 10 : 11);
        }
        due("peer", object.peer(0, 1), Runs.nextAndMatch(122, 121));
        due("state", object.state(0), state);
        endOfRun();
    }

    /** Node 4 sleeps while 48 entries are committed and go into the leader's base. */
    private void aLateSnapshot() {
        due("crash", object.crash(4), 0);
        electOfFive();
        int state = 0;
        for (int number = 1; number <= 48; number++) {
            due("propose", object.propose(0, -number), number);
            carry(1, 3);
            carry(2, 3);
            due("compact", object.compact(0), 1);
            state = 31 * state - number;
            if (number % 8 == 0) {
                due("compact", object.compact(1), number == 8 ? 7 : 8);
                due("compact", object.compact(2), number == 8 ? 7 : 8);
            }
        }
        due("restart", object.restart(4), 0);
        wakeByASnapshot(48, state);
        while (calls < MOST_CALLS - 2) {
            due("pending", object.pending(), 0);
        }
        due("commit", object.commit(4), 49);
        due("state", object.state(4), 31 * state + 7);
        endOfRun();
    }

    private void electOfFive() {
        due("timeout", object.timeout(0), 0);
        for (int slot = 0; slot < 4; slot++) {
            due("deliver", object.deliver(slot), 1);
        }
        for (int slot = 0; slot < 3; slot++) {
            due("deliver", object.deliver(slot), 2);
        }
    }

    /** The entry behind the base reaches three of five, the sleeper among them, and then its commit does. */
    private void wakeByASnapshot(int base, int state) {
        due("peer", object.peer(0, 4), Runs.nextAndMatch(1, 0));
        carry(4, 5);
        due("base", object.base(4), base);
        due("state", object.state(4), state);
        due("propose", object.propose(0, 7), base + 1);
        carry(1, 3);
        carry(4, 3);
        carry(4, 3);
        due("peer", object.peer(0, 4), Runs.nextAndMatch(base + 2, base + 1));
    }
}
