/** The edges that promises 11 to 20 name: each sentence by itself. */
public final class ReadingEdgesTest {
    private static final Checks CHECKS = new Checks("ReadingEdgesTest");

    public static void main(String[] args) {
        roleOfNoNode();
        roleOfEachKind();
        termOfNoNode();
        termAtFirstAndLater();
        voteOfNoNode();
        voteThatIsNone();
        voteForTheFirstAndTheLastNode();
        baseOfNoNode();
        baseAtFirstAndLater();
        lastOfNoNode();
        lastOfAnEmptyLog();
        commitOfNoNode();
        commitAtItsEdges();
        termAtOfNoNode();
        termAtNoNumber();
        termAtTheEdgesOfALog();
        commandAtOfNoNode();
        commandAtNoEntry();
        commandAtTheEdgesOfALog();
        stateOfNoNode();
        stateOfAnEmptyLog();
        stateThatWraps();
        stateThatWrapsBehindABase();
        stateUpToTheCommitAlone();
        peerOfNoNode();
        peerThatIsNoNode();
        peerOfItself();
        peerOfNoLeader();
        peerThatIsDown();
        CHECKS.end();
    }

    /** Leader 0 of term 1 with base 2 and the entries 3 to 5, of which 3 is committed. */
    private static QuorumLog aroundABase() {
        QuorumLog x = Runs.led(3, 4, 8, 0);
        for (int i = 1; i <= 4; i++) {
            x.propose(0, 10 * i);
        }
        Runs.beat(x, 0, 1);
        Runs.beat(x, 0, 1);
        x.compact(0);
        x.propose(0, 50);
        Runs.beat(x, 0, 1);
        return x;
    }

    private static void roleOfNoNode() {
        CHECKS.at("11: BAD");
        for (int nodes = 3; nodes <= 5; nodes++) {
            QuorumLog x = new QuorumLog(nodes, 4, 8);
            CHECKS.due("behind the last", x.role(nodes), QuorumLog.BAD);
            CHECKS.due("the last", x.role(nodes - 1), 4);
            for (int odd : Runs.ODD_NUMBERS) {
                CHECKS.due("role(" + odd + ")", x.role(odd), QuorumLog.BAD);
            }
        }
    }

    private static void roleOfEachKind() {
        CHECKS.at("11: The role, plus 4 if the node is up");
        QuorumLog x = new QuorumLog(3, 4, 8);
        CHECKS.due("a follower", x.role(0), 4);
        x.timeout(0);
        CHECKS.due("a candidate", x.role(0), 5);
        Runs.settle(x);
        CHECKS.due("a leader", x.role(0), 6);
        x.crash(0);
        CHECKS.due("down", x.role(0), 0);
        x.restart(0);
        CHECKS.due("up again", x.role(0), 4);
    }

    private static void termOfNoNode() {
        CHECKS.at("12: BAD");
        for (int nodes = 3; nodes <= 5; nodes++) {
            QuorumLog x = new QuorumLog(nodes, 4, 8);
            CHECKS.due("behind the last", x.term(nodes), QuorumLog.BAD);
            CHECKS.due("the last", x.term(nodes - 1), 0);
            for (int odd : Runs.ODD_NUMBERS) {
                CHECKS.due("term(" + odd + ")", x.term(odd), QuorumLog.BAD);
            }
        }
    }

    private static void termAtFirstAndLater() {
        CHECKS.at("12: The term");
        QuorumLog x = new QuorumLog(3, 4, 8);
        for (int term = 0; term < 30; term++) {
            CHECKS.due("term", x.term(1), term);
            x.timeout(1);
            x.drop(0);
            x.drop(1);
        }
        CHECKS.due("of another", x.term(0), 0);
        x.crash(1);
        CHECKS.due("while it is down", x.term(1), 30);
    }

    private static void voteOfNoNode() {
        CHECKS.at("13: BAD when it is none, or there is no such node");
        for (int nodes = 3; nodes <= 5; nodes++) {
            QuorumLog x = Runs.led(nodes, 4, 8, 0);
            CHECKS.due("behind the last", x.vote(nodes), QuorumLog.BAD);
            CHECKS.due("the last", x.vote(nodes - 1), 0);
            for (int odd : Runs.ODD_NUMBERS) {
                CHECKS.due("vote(" + odd + ")", x.vote(odd), QuorumLog.BAD);
            }
        }
    }

    private static void voteThatIsNone() {
        CHECKS.at("13: BAD when it is none");
        QuorumLog x = new QuorumLog(3, 4, 8);
        for (int node = 0; node < 3; node++) {
            CHECKS.due("at first", x.vote(node), QuorumLog.BAD);
        }
        Runs.electBy(x, 0, 1);
        CHECKS.due("of one that was not asked", x.vote(2), QuorumLog.BAD);
        Runs.beat(x, 0, 2);
        CHECKS.due("its term by an APPEND", x.term(2), 1);
        CHECKS.due("its vote is none still", x.vote(2), QuorumLog.BAD);
        x.propose(0, 5);
        x.timeout(1);
        x.deliver(0);
        CHECKS.due("one that asked and was behind", x.term(0), 2);
        CHECKS.due("the vote of the term before is none now", x.vote(0), QuorumLog.BAD);
    }

    private static void voteForTheFirstAndTheLastNode() {
        CHECKS.at("13: The vote");
        QuorumLog x = Runs.led(5, 4, 8, 0);
        QuorumLog y = Runs.led(5, 4, 8, 4);
        for (int node = 0; node < 5; node++) {
            CHECKS.due("for node 0", x.vote(node), 0);
            CHECKS.due("for node 4", y.vote(node), 4);
        }
        x.crash(3);
        CHECKS.due("while it is down", x.vote(3), 0);
    }

    private static void baseOfNoNode() {
        CHECKS.at("14: BAD");
        for (int nodes = 3; nodes <= 5; nodes++) {
            QuorumLog x = new QuorumLog(nodes, 4, 8);
            CHECKS.due("behind the last", x.base(nodes), QuorumLog.BAD);
            CHECKS.due("the last", x.base(nodes - 1), 0);
            for (int odd : Runs.ODD_NUMBERS) {
                CHECKS.due("base(" + odd + ")", x.base(odd), QuorumLog.BAD);
            }
        }
    }

    private static void baseAtFirstAndLater() {
        CHECKS.at("14: The base");
        QuorumLog x = aroundABase();
        CHECKS.due("of one that cut its log", x.base(0), 2);
        CHECKS.due("of one that did not", x.base(1), 0);
        x.crash(0);
        CHECKS.due("while it is down", x.base(0), 2);
    }

    private static void lastOfNoNode() {
        CHECKS.at("15: BAD");
        for (int nodes = 3; nodes <= 5; nodes++) {
            QuorumLog x = new QuorumLog(nodes, 4, 8);
            CHECKS.due("behind the last", x.last(nodes), QuorumLog.BAD);
            CHECKS.due("the last", x.last(nodes - 1), 0);
            for (int odd : Runs.ODD_NUMBERS) {
                CHECKS.due("last(" + odd + ")", x.last(odd), QuorumLog.BAD);
            }
        }
    }

    private static void lastOfAnEmptyLog() {
        CHECKS.at("15: The last number");
        QuorumLog x = Runs.led(3, 1, 8, 0);
        CHECKS.due("at first", x.last(0), 0);
        x.propose(0, 5);
        CHECKS.due("of a full one", x.last(0), 1);
        Runs.beat(x, 0, 1);
        x.compact(0);
        CHECKS.due("with nothing behind the base", x.last(0), 1);
        x.crash(0);
        CHECKS.due("while it is down", x.last(0), 1);
    }

    private static void commitOfNoNode() {
        CHECKS.at("16: BAD");
        for (int nodes = 3; nodes <= 5; nodes++) {
            QuorumLog x = new QuorumLog(nodes, 4, 8);
            CHECKS.due("behind the last", x.commit(nodes), QuorumLog.BAD);
            CHECKS.due("the last", x.commit(nodes - 1), 0);
            for (int odd : Runs.ODD_NUMBERS) {
                CHECKS.due("commit(" + odd + ")", x.commit(odd), QuorumLog.BAD);
            }
        }
    }

    private static void commitAtItsEdges() {
        CHECKS.at("Terms: the COMMIT, a number from B to LAST");
        QuorumLog x = aroundABase();
        CHECKS.due("between both", x.commit(0), 3);
        x.compact(0);
        CHECKS.due("at the base", x.commit(0), 3);
        x.compact(1);
        Runs.beat(x, 0, 1);
        Runs.beat(x, 0, 1);
        CHECKS.due("at the last", x.commit(0), 5);
    }

    private static void termAtOfNoNode() {
        CHECKS.at("17: BAD when there is none, or no such node");
        for (int nodes = 3; nodes <= 5; nodes++) {
            QuorumLog x = new QuorumLog(nodes, 4, 8);
            CHECKS.due("behind the last", x.termAt(nodes, 0), QuorumLog.BAD);
            CHECKS.due("the last", x.termAt(nodes - 1, 0), 0);
            for (int odd : Runs.ODD_NUMBERS) {
                CHECKS.due("termAt(" + odd + ", 0)", x.termAt(odd, 0), QuorumLog.BAD);
            }
        }
    }

    private static void termAtNoNumber() {
        CHECKS.at("17: BAD when there is none");
        QuorumLog x = aroundABase();
        int[] none = {Integer.MIN_VALUE, -2, -1, 0, 1, 6, 7, 8, 12, Integer.MAX_VALUE};
        for (int i : none) {
            CHECKS.due("at " + i, x.termAt(0, i), QuorumLog.BAD);
        }
        CHECKS.due("behind an empty log", x.termAt(2, 1), QuorumLog.BAD);
        CHECKS.due("before an empty log", x.termAt(2, -1), QuorumLog.BAD);
    }

    private static void termAtTheEdgesOfALog() {
        CHECKS.at("Terms: The term AT a number is that of its entry, or for B that of the base");
        QuorumLog x = aroundABase();
        CHECKS.due("at the base", x.termAt(0, 2), 1);
        CHECKS.due("at the first entry", x.termAt(0, 3), 1);
        CHECKS.due("at the last entry", x.termAt(0, 5), 1);
        CHECKS.due("at the first base", x.termAt(2, 0), 0);
        Runs.bounce(x, 0);
        Runs.elect(x, 0);
        x.propose(0, 60);
        CHECKS.due("at an entry of a later term", x.termAt(0, 6), 2);
        CHECKS.due("before it", x.termAt(0, 5), 1);
        CHECKS.due("behind it", x.termAt(0, 7), QuorumLog.BAD);
    }

    private static void commandAtOfNoNode() {
        CHECKS.at("18: 0 when there is none, or no such node");
        for (int nodes = 3; nodes <= 5; nodes++) {
            QuorumLog x = Runs.led(nodes, 4, 8, nodes - 1);
            x.propose(nodes - 1, 9);
            CHECKS.due("behind the last", x.commandAt(nodes, 1), 0);
            CHECKS.due("the last", x.commandAt(nodes - 1, 1), 9);
            for (int odd : Runs.ODD_NUMBERS) {
                CHECKS.due("commandAt(" + odd + ", 1)", x.commandAt(odd, 1), 0);
            }
        }
    }

    private static void commandAtNoEntry() {
        CHECKS.at("18: 0 when there is none");
        QuorumLog x = aroundABase();
        int[] none = {Integer.MIN_VALUE, -1, 0, 1, 2, 6, 7, 8, 12, Integer.MAX_VALUE};
        for (int i : none) {
            CHECKS.due("of " + i, x.commandAt(0, i), 0);
        }
        CHECKS.due("of an empty log", x.commandAt(2, 1), 0);
    }

    private static void commandAtTheEdgesOfALog() {
        CHECKS.at("18: The command of entry i");
        QuorumLog x = aroundABase();
        CHECKS.due("the first behind the base", x.commandAt(0, 3), 30);
        CHECKS.due("the last", x.commandAt(0, 5), 50);
        QuorumLog y = Runs.led(3, 4, 8, 0);
        int[] commands = {Integer.MIN_VALUE, Integer.MAX_VALUE, 0, -1};
        for (int i = 0; i < 4; i++) {
            y.propose(0, commands[i]);
        }
        for (int i = 0; i < 4; i++) {
            CHECKS.due("any command", y.commandAt(0, i + 1), commands[i]);
        }
    }

    private static void stateOfNoNode() {
        CHECKS.at("19: 0 when there is no such node");
        for (int nodes = 3; nodes <= 5; nodes++) {
            QuorumLog x = Runs.led(nodes, 4, 8, nodes - 1);
            x.propose(nodes - 1, 9);
            for (int peer = 0; peer < nodes - 1; peer++) {
                Runs.beat(x, nodes - 1, peer);
            }
            CHECKS.due("behind the last", x.state(nodes), 0);
            CHECKS.due("the last", x.state(nodes - 1), 9);
            for (int odd : Runs.ODD_NUMBERS) {
                CHECKS.due("state(" + odd + ")", x.state(odd), 0);
            }
        }
    }

    private static void stateOfAnEmptyLog() {
        CHECKS.at("Terms: for B it is kept with the base (0 at first)");
        QuorumLog x = Runs.led(3, 2, 8, 0);
        CHECKS.due("at first", x.state(0), 0);
        x.propose(0, 3);
        Runs.beat(x, 0, 1);
        x.compact(0);
        CHECKS.due("with nothing behind the base", x.state(0), 3);
        x.propose(0, 4);
        CHECKS.due("with an entry that is not committed", x.state(0), 3);
        Runs.beat(x, 0, 1);
        CHECKS.due("with one that is", x.state(0), 97);
    }

    /** The state that is due is counted in longs, and cut to 32 bits by hand. */
    private static int wrapped(long state, int command) {
        long sum = (31 * state + command) % (1L << 32);
        if (sum >= 1L << 31) {
            sum -= 1L << 32;
        }
        return (int) (sum < -(1L << 31) ? sum + (1L << 32) : sum);
    }

    private static void stateThatWraps() {
        CHECKS.at("Terms: it is 31 times the one before, + its command (wrapping)");
        int[][] runs = {
            {69273666, 1, 1}, {Integer.MAX_VALUE, Integer.MAX_VALUE}, {Integer.MIN_VALUE, Integer.MIN_VALUE},
            {-69273667, -1, 5}, {1, Integer.MAX_VALUE}, {-1, Integer.MIN_VALUE, 0, 7}};
        for (int[] commands : runs) {
            QuorumLog x = Runs.led(3, 12, 8, 0);
            int due = 0;
            for (int command : commands) {
                x.propose(0, command);
                Runs.beat(x, 0, 1);
                due = wrapped(due, command);
                CHECKS.due("after " + command, x.state(0), due);
            }
        }
        QuorumLog y = Runs.led(3, 12, 8, 0);
        y.propose(0, 1);
        y.propose(0, Integer.MAX_VALUE);
        Runs.beat(y, 0, 1);
        Runs.beat(y, 0, 1);
        CHECKS.due("31 + 2147483647", y.state(0), -2147483618);
    }

    private static void stateThatWrapsBehindABase() {
        CHECKS.at("Terms: it is 31 times the one before, + its command (wrapping)");
        QuorumLog x = Runs.led(3, 1, 8, 0);
        int due = 0;
        for (int i = 1; i <= 20; i++) {
            int command = 1000003 * i;
            CHECKS.due("propose", x.propose(0, command), i);
            Runs.beat(x, 0, 1);
            due = wrapped(due, command);
            CHECKS.due("the state of " + i + " entries", x.state(0), due);
            CHECKS.due("compact", x.compact(0), 1);
            CHECKS.due("it stays", x.state(0), due);
            Runs.beat(x, 0, 1);
            CHECKS.due("the follower's", x.state(1), due);
            x.compact(1);
        }
        CHECKS.due("a SNAPSHOT", x.heartbeat(0, 2), 5);
        x.deliver(0);
        CHECKS.due("bears the same", x.state(2), due);
    }

    private static void stateUpToTheCommitAlone() {
        CHECKS.at("19: The state up to the commit");
        QuorumLog x = aroundABase();
        CHECKS.due("of entries 1 to 3", x.state(0), (10 * 31 + 20) * 31 + 30);
        CHECKS.due("of 1 and 2, for all that the follower knows", x.state(1), 10 * 31 + 20);
        CHECKS.due("of none", x.state(2), 0);
        x.crash(0);
        CHECKS.due("while it is down", x.state(0), (10 * 31 + 20) * 31 + 30);
    }

    private static void peerOfNoNode() {
        CHECKS.at("20: BAD when leader is none");
        for (int nodes = 3; nodes <= 5; nodes++) {
            QuorumLog x = Runs.led(nodes, 4, 8, nodes - 1);
            CHECKS.due("behind the last", x.peer(nodes, 0), QuorumLog.BAD);
            CHECKS.due("the last", x.peer(nodes - 1, 0), Runs.nextAndMatch(1, 0));
            for (int odd : Runs.ODD_NUMBERS) {
                CHECKS.due("peer(" + odd + ", 0)", x.peer(odd, 0), QuorumLog.BAD);
                CHECKS.due("both", x.peer(odd, odd), QuorumLog.BAD);
            }
        }
    }

    private static void peerThatIsNoNode() {
        CHECKS.at("20: or there is no such other node");
        for (int nodes = 3; nodes <= 5; nodes++) {
            QuorumLog x = Runs.led(nodes, 4, 8, 0);
            CHECKS.due("behind the last", x.peer(0, nodes), QuorumLog.BAD);
            CHECKS.due("the last", x.peer(0, nodes - 1), Runs.nextAndMatch(1, 0));
            for (int odd : Runs.ODD_NUMBERS) {
                CHECKS.due("peer(0, " + odd + ")", x.peer(0, odd), QuorumLog.BAD);
            }
        }
    }

    private static void peerOfItself() {
        CHECKS.at("20: or there is no such other node");
        QuorumLog x = Runs.led(3, 4, 8, 1);
        CHECKS.due("a leader", x.peer(1, 1), QuorumLog.BAD);
        CHECKS.due("a follower", x.peer(0, 0), QuorumLog.BAD);
    }

    private static void peerOfNoLeader() {
        CHECKS.at("20: BAD when leader is none");
        QuorumLog x = Runs.led(3, 4, 8, 0);
        CHECKS.due("a follower", x.peer(1, 0), QuorumLog.BAD);
        x.timeout(1);
        CHECKS.due("a candidate", x.peer(1, 0), QuorumLog.BAD);
        x.crash(0);
        CHECKS.due("a leader that went down", x.peer(0, 1), QuorumLog.BAD);
        x.restart(0);
        CHECKS.due("and came back", x.peer(0, 1), QuorumLog.BAD);
        QuorumLog y = Runs.led(3, 4, 8, 0);
        y.timeout(1);
        y.deliver(0);
        CHECKS.due("a leader that heard of a greater term", y.peer(0, 1), QuorumLog.BAD);
    }

    private static void peerThatIsDown() {
        CHECKS.at("20: MATCH of a peer, plus 100000 times NEXT");
        QuorumLog x = aroundABase();
        CHECKS.due("one that is up", x.peer(0, 1), Runs.nextAndMatch(4, 3));
        x.crash(1);
        CHECKS.due("one that is down", x.peer(0, 1), Runs.nextAndMatch(4, 3));
        CHECKS.due("one that never answered", x.peer(0, 2), Runs.nextAndMatch(1, 0));
    }
}
