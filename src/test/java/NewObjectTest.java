/** Promise 1: the limits of a new object, and what all its parts are at first. */
public final class NewObjectTest {
    private static final Checks CHECKS = new Checks("NewObjectTest");

    public static void main(String[] args) {
        nodesAreThreeToFive();
        capIsOneToTwelve();
        slotsAreEightToForty();
        allIsAtItsBeginning();
        objectsShareNothing();
        CHECKS.end();
    }

    private static void nodesAreThreeToFive() {
        int[][] cases = {
            {Integer.MIN_VALUE, 3}, {-1, 3}, {0, 3}, {2, 3}, {3, 3}, {4, 4}, {5, 5}, {6, 5}, {Integer.MAX_VALUE, 5}};
        for (int[] c : cases) {
            QuorumLog x = new QuorumLog(c[0], 4, 8);
            CHECKS.due("role of the last of " + c[0] + " nodes", x.role(c[1] - 1), 4);
            CHECKS.due("role behind the last of " + c[0] + " nodes", x.role(c[1]), QuorumLog.BAD);
            CHECKS.due("timeout among " + c[0] + " nodes", x.timeout(0), 0);
            CHECKS.due("ASKs among " + c[0] + " nodes", x.pending(), c[1] - 1);
        }
    }

    private static void capIsOneToTwelve() {
        int[][] cases = {
            {Integer.MIN_VALUE, 1}, {-1, 1}, {0, 1}, {1, 1}, {2, 2}, {7, 7}, {11, 11}, {12, 12}, {13, 12},
            {Integer.MAX_VALUE, 12}};
        for (int[] c : cases) {
            QuorumLog x = Runs.led(3, c[0], 8, 0);
            for (int i = 1; i <= c[1]; i++) {
                CHECKS.due("entry " + i + " with cap " + c[0], x.propose(0, i), i);
            }
            CHECKS.due("entry too many with cap " + c[0], x.propose(0, 99), QuorumLog.FULL);
            CHECKS.due("last with cap " + c[0], x.last(0), c[1]);
        }
    }

    private static void slotsAreEightToForty() {
        int[][] cases = {
            {Integer.MIN_VALUE, 8}, {-1, 8}, {0, 8}, {7, 8}, {8, 8}, {9, 9}, {39, 39}, {40, 40}, {41, 40},
            {Integer.MAX_VALUE, 40}};
        for (int[] c : cases) {
            QuorumLog x = new QuorumLog(3, 4, c[0]);
            CHECKS.due("the last of " + c[0] + " slots", x.slot(c[1] - 1), 0);
            CHECKS.due("behind the last of " + c[0] + " slots", x.slot(c[1]), QuorumLog.BAD);
            x.timeout(0);
            for (int i = 2; i < c[1]; i++) {
                CHECKS.due("copy in " + c[0] + " slots", x.duplicate(0), i);
            }
            CHECKS.due("copy too many in " + c[0] + " slots", x.duplicate(0), QuorumLog.FULL);
            CHECKS.due("pending in " + c[0] + " slots", x.pending(), c[1]);
        }
    }

    private static void allIsAtItsBeginning() {
        QuorumLog x = new QuorumLog(5, 12, 40);
        for (int node = 0; node < 5; node++) {
            CHECKS.due("role", x.role(node), 4);
            CHECKS.due("term", x.term(node), 0);
            CHECKS.due("vote", x.vote(node), QuorumLog.BAD);
            CHECKS.due("base", x.base(node), 0);
            CHECKS.due("last", x.last(node), 0);
            CHECKS.due("commit", x.commit(node), 0);
            CHECKS.due("term at the base", x.termAt(node, 0), 0);
            CHECKS.due("term behind the base", x.termAt(node, 1), QuorumLog.BAD);
            CHECKS.due("command", x.commandAt(node, 1), 0);
            CHECKS.due("state", x.state(node), 0);
            CHECKS.due("peer", x.peer(node, (node + 1) % 5), QuorumLog.BAD);
        }
        CHECKS.due("pending", x.pending(), 0);
        for (int slot = 0; slot < 40; slot++) {
            CHECKS.due("slot", x.slot(slot), 0);
        }
    }

    private static void objectsShareNothing() {
        QuorumLog one = Runs.led(3, 4, 8, 0);
        QuorumLog other = new QuorumLog(3, 4, 8);
        one.propose(0, 5);
        one.heartbeat(0, 1);
        CHECKS.due("term of the other object", other.term(0), 0);
        CHECKS.due("last of the other object", other.last(0), 0);
        CHECKS.due("pending of the other object", other.pending(), 0);
    }
}
