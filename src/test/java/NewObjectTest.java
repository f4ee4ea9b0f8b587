/** Promise 1: the limits of a new object, and what all its parts are at first. */
public final class NewObjectTest {
    private static final Checks CHECKS = new Checks("NewObjectTest");

    public static void main(String[] args) {
        nodesLessThanThree();
        nodesMoreThanFive();
        nodesWithinTheLimits();
        capLessThanOne();
        capMoreThanTwelve();
        capWithinTheLimits();
        slotsLessThanEight();
        slotsMoreThanForty();
        slotsWithinTheLimits();
        allThreeOutsideTheLimits();
        allIsAtItsBeginning();
        objectsShareNothing();
        CHECKS.end();
    }

    private static void nodesLessThanThree() {
        CHECKS.at("1: N is nodes, but 3 when that is less");
        int[] less = {2, 1, 0, -1, -3, Integer.MIN_VALUE};
        for (int nodes : less) {
            hasNodes(nodes, 3, 2);
        }
    }

    private static void nodesMoreThanFive() {
        CHECKS.at("1: and 5 when it is more");
        int[] more = {6, 7, 8, 64, Integer.MAX_VALUE};
        for (int nodes : more) {
            hasNodes(nodes, 5, 3);
        }
    }

    private static void nodesWithinTheLimits() {
        CHECKS.at("1: N is nodes");
        hasNodes(3, 3, 2);
        hasNodes(4, 4, 3);
        hasNodes(5, 5, 3);
    }

    /** So many nodes there are, and so many of them elect a leader. */
    private static void hasNodes(int nodes, int due, int elect) {
        QuorumLog x = new QuorumLog(nodes, 4, 8);
        CHECKS.due("role of the last of " + nodes, x.role(due - 1), 4);
        CHECKS.due("role behind the last of " + nodes, x.role(due), QuorumLog.BAD);
        CHECKS.due("timeout among " + nodes, x.timeout(0), 0);
        CHECKS.due("ASKs among " + nodes, x.pending(), due - 1);
        CHECKS.due("the last ASK among " + nodes, x.slot(due - 2), Runs.message(1, 0, due - 1, 1));
        for (int voters = 1; voters < elect; voters++) {
            CHECKS.due("role with " + voters + " of " + nodes, x.role(0), 5);
            x.deliver(voters - 1);
            Runs.settleVotes(x);
        }
        CHECKS.due("role with " + elect + " of " + nodes, x.role(0), 6);
    }

    private static void capLessThanOne() {
        CHECKS.at("1: CAP is cap, but 1 to 12 likewise");
        int[] less = {0, -1, -12, Integer.MIN_VALUE};
        for (int cap : less) {
            hasRoomFor(cap, 1);
        }
    }

    private static void capMoreThanTwelve() {
        CHECKS.at("1: CAP is cap, but 1 to 12 likewise");
        int[] more = {13, 14, 100, Integer.MAX_VALUE};
        for (int cap : more) {
            hasRoomFor(cap, 12);
        }
    }

    private static void capWithinTheLimits() {
        CHECKS.at("1: CAP is cap");
        for (int cap = 1; cap <= 12; cap++) {
            hasRoomFor(cap, cap);
        }
    }

    /** So many entries fit into the leader's log, and into another's that can't pass them on. */
    private static void hasRoomFor(int cap, int due) {
        QuorumLog x = Runs.led(3, cap, 8, 0);
        for (int i = 1; i <= due; i++) {
            CHECKS.due("entry " + i + " with cap " + cap, x.propose(0, i), i);
            Runs.beat(x, 0, 1);
            CHECKS.due("last of another with cap " + cap, x.last(1), i);
        }
        CHECKS.due("entry too many with cap " + cap, x.propose(0, 99), QuorumLog.FULL);
        CHECKS.due("last with cap " + cap, x.last(0), due);
        CHECKS.due("all go with cap " + cap, x.compact(0), due);
        CHECKS.due("one more with cap " + cap, x.propose(0, 99), due + 1);
        Runs.beat(x, 0, 1);
        CHECKS.due("it finds no room with cap " + cap, x.last(1), due);
    }

    private static void slotsLessThanEight() {
        CHECKS.at("1: S is slots, but 8 to 40 likewise");
        int[] less = {7, 1, 0, -1, -40, Integer.MIN_VALUE};
        for (int slots : less) {
            hasSlots(slots, 8);
        }
    }

    private static void slotsMoreThanForty() {
        CHECKS.at("1: S is slots, but 8 to 40 likewise");
        int[] more = {41, 42, 100, Integer.MAX_VALUE};
        for (int slots : more) {
            hasSlots(slots, 40);
        }
    }

    private static void slotsWithinTheLimits() {
        CHECKS.at("1: S is slots");
        int[] within = {8, 9, 20, 39, 40};
        for (int slots : within) {
            hasSlots(slots, slots);
        }
    }

    private static void hasSlots(int slots, int due) {
        QuorumLog x = new QuorumLog(3, 4, slots);
        CHECKS.due("the last of " + slots, x.slot(due - 1), 0);
        CHECKS.due("behind the last of " + slots, x.slot(due), QuorumLog.BAD);
        x.timeout(0);
        for (int i = 2; i < due; i++) {
            CHECKS.due("copy in " + slots, x.duplicate(0), i);
        }
        CHECKS.due("copy too many in " + slots, x.duplicate(0), QuorumLog.FULL);
        CHECKS.due("pending in " + slots, x.pending(), due);
    }

    private static void allThreeOutsideTheLimits() {
        CHECKS.at("1: likewise");
        QuorumLog least = Runs.led(Integer.MIN_VALUE, Integer.MIN_VALUE, Integer.MIN_VALUE, 0);
        CHECKS.due("three nodes", least.role(3), QuorumLog.BAD);
        CHECKS.due("one entry", least.propose(0, 5), 1);
        CHECKS.due("no second", least.propose(0, 5), QuorumLog.FULL);
        CHECKS.due("eight slots", least.slot(8), QuorumLog.BAD);
        QuorumLog most = Runs.led(Integer.MAX_VALUE, Integer.MAX_VALUE, Integer.MAX_VALUE, 4);
        CHECKS.due("five nodes", most.role(4), 6);
        for (int i = 1; i <= 12; i++) {
            CHECKS.due("twelve entries", most.propose(4, i), i);
        }
        CHECKS.due("no more", most.propose(4, 13), QuorumLog.FULL);
        CHECKS.due("forty slots", most.slot(39), 0);
    }

    private static void allIsAtItsBeginning() {
        CHECKS.at("Terms: 0 at first");
        QuorumLog x = new QuorumLog(5, 12, 40);
        for (int node = 0; node < 5; node++) {
            CHECKS.due("role", x.role(node), 4);
            CHECKS.due("term", x.term(node), 0);
            CHECKS.due("vote", x.vote(node), QuorumLog.BAD);
            CHECKS.due("base", x.base(node), 0);
            CHECKS.due("last", x.last(node), 0);
            CHECKS.due("commit", x.commit(node), 0);
            CHECKS.due("term at the base", x.termAt(node, 0), 0);
            CHECKS.due("term behind the base", x.termAt(node, 1), QuorumLog.BAD);
            CHECKS.due("command", x.commandAt(node, 1), 0);
            CHECKS.due("state", x.state(node), 0);
            CHECKS.due("peer", x.peer(node, (node + 1) % 5), QuorumLog.BAD);
        }
        CHECKS.due("pending", x.pending(), 0);
        for (int slot = 0; slot < 40; slot++) {
            CHECKS.due("slot", x.slot(slot), 0);
        }
    }

    private static void objectsShareNothing() {
        CHECKS.at("1: A new object");
        QuorumLog one = Runs.led(3, 4, 8, 0);
        QuorumLog other = new QuorumLog(3, 4, 8);
        one.propose(0, 5);
        one.heartbeat(0, 1);
        CHECKS.due("term of the other object", other.term(0), 0);
        CHECKS.due("last of the other object", other.last(0), 0);
        CHECKS.due("pending of the other object", other.pending(), 0);
    }
}
