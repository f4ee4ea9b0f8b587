/** Promises 9, 10 and 11: nodes that go down and come back, and what is kept. */
public final class CrashTest {
    private static final Checks CHECKS = new Checks("CrashTest");

    public static void main(String[] args) {
        crashKeepsAllButTheRole();
        crashEndsACandidacy();
        crashIsRefused();
        restartForgetsTheCommit();
        restartGoesBackToTheBase();
        restartIsRefused();
        messagesSurviveACrash();
        theVoteSurvivesACrash();
        roleTellsWhetherANodeIsUp();
        CHECKS.end();
    }

    /** Leader 0 of term 1 with entries 7, 8 and 9, of which two are committed. */
    private static QuorumLog withTwoCommitted() {
        QuorumLog x = Runs.led(3, 4, 8, 0);
        x.propose(0, 7);
        x.propose(0, 8);
        x.propose(0, 9);
        Runs.beat(x, 0, 1);
        Runs.beat(x, 0, 1);
        return x;
    }

    private static void keptParts(QuorumLog x) {
        CHECKS.due("term", x.term(0), 1);
        CHECKS.due("vote", x.vote(0), 0);
        CHECKS.due("last", x.last(0), 3);
        CHECKS.due("term at 3", x.termAt(0, 3), 1);
        CHECKS.due("command of 3", x.commandAt(0, 3), 9);
    }

    private static void crashKeepsAllButTheRole() {
        QuorumLog x = withTwoCommitted();
        CHECKS.due("crash", x.crash(0), 0);
        CHECKS.due("role: a follower that is down", x.role(0), 0);
        keptParts(x);
        CHECKS.due("base", x.base(0), 0);
        CHECKS.due("commit stays while it is down", x.commit(0), 2);
        CHECKS.due("and the state", x.state(0), 7 * 31 + 8);
        CHECKS.due("the others go on", x.role(1), 4);
        CHECKS.due("nothing is sent", x.pending(), 0);
    }

    private static void crashEndsACandidacy() {
        QuorumLog x = new QuorumLog(3, 4, 8);
        x.timeout(1);
        CHECKS.due("a candidate", x.role(1), 5);
        CHECKS.due("crash", x.crash(1), 0);
        CHECKS.due("a follower that is down", x.role(1), 0);
        CHECKS.due("its vote", x.vote(1), 1);
        CHECKS.due("its ASKs wait", x.pending(), 2);
    }

    private static void crashIsRefused() {
        QuorumLog x = withTwoCommitted();
        for (int odd : Runs.ODD_NUMBERS) {
            CHECKS.due("crash(" + odd + ")", x.crash(odd), QuorumLog.BAD);
        }
        CHECKS.due("crash behind the last node", x.crash(3), QuorumLog.BAD);
        x.crash(0);
        CHECKS.due("crash twice", x.crash(0), QuorumLog.DOWN);
        CHECKS.due("the commit stays", x.commit(0), 2);
    }

    private static void restartForgetsTheCommit() {
        QuorumLog x = withTwoCommitted();
        x.crash(0);
        CHECKS.due("restart", x.restart(0), 0);
        CHECKS.due("a follower that is up", x.role(0), 4);
        keptParts(x);
        CHECKS.due("commit is the base", x.commit(0), 0);
        CHECKS.due("state is that of the base", x.state(0), 0);
        CHECKS.due("nothing is sent", x.pending(), 0);
    }

    private static void restartGoesBackToTheBase() {
        QuorumLog x = withTwoCommitted();
        x.compact(0);
        Runs.beat(x, 0, 1);
        CHECKS.due("commit 3", x.commit(0), 3);
        x.crash(0);
        x.restart(0);
        keptParts(x);
        CHECKS.due("base", x.base(0), 2);
        CHECKS.due("term at the base", x.termAt(0, 2), 1);
        CHECKS.due("commit is the base", x.commit(0), 2);
        CHECKS.due("state is that of the base", x.state(0), 7 * 31 + 8);
    }

    private static void restartIsRefused() {
        QuorumLog x = withTwoCommitted();
        for (int odd : Runs.ODD_NUMBERS) {
            CHECKS.due("restart(" + odd + ")", x.restart(odd), QuorumLog.BAD);
        }
        CHECKS.due("restart behind the last node", x.restart(3), QuorumLog.BAD);
        CHECKS.due("restart of a leader that is up", x.restart(0), QuorumLog.DOWN);
        CHECKS.due("its role stays", x.role(0), 6);
        CHECKS.due("its commit stays", x.commit(0), 2);
        x.crash(0);
        x.restart(0);
        CHECKS.due("restart twice", x.restart(0), QuorumLog.DOWN);
    }

    private static void messagesSurviveACrash() {
        QuorumLog x = withTwoCommitted();
        x.heartbeat(0, 2);
        x.crash(0);
        x.crash(2);
        CHECKS.due("it waits", x.slot(0), Runs.message(3, 0, 2, 1));
        x.restart(2);
        CHECKS.due("deliver", x.deliver(0), 3);
        CHECKS.due("the entry came", x.commandAt(2, 1), 7);
        CHECKS.due("the commit too", x.commit(2), 1);
        x.restart(0);
        CHECKS.due("the answer finds no leader", x.deliver(0), 4);
        CHECKS.due("a follower", x.role(0), 4);
    }

    private static void theVoteSurvivesACrash() {
        QuorumLog x = new QuorumLog(3, 4, 8);
        x.timeout(0);
        x.deliver(1);
        CHECKS.due("vote", x.vote(2), 0);
        x.crash(2);
        x.restart(2);
        CHECKS.due("the same after", x.vote(2), 0);
        CHECKS.due("the term too", x.term(2), 1);
        x.timeout(1);
        Runs.settle(x);
        CHECKS.due("no second vote in the term", x.vote(2), 0);
        CHECKS.due("node 1 is not elected", x.role(1), 5);
        CHECKS.due("node 0 is", x.role(0), 6);
    }

    private static void roleTellsWhetherANodeIsUp() {
        QuorumLog x = new QuorumLog(4, 4, 8);
        CHECKS.due("a follower", x.role(3), 4);
        x.timeout(3);
        CHECKS.due("a candidate", x.role(3), 5);
        Runs.settle(x);
        CHECKS.due("a leader", x.role(3), 6);
        x.crash(3);
        CHECKS.due("down", x.role(3), 0);
        x.restart(3);
        CHECKS.due("up again", x.role(3), 4);
    }
}
