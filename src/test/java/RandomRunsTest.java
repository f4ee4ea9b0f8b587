import java.util.Arrays;
import java.util.Random;

/**
 * Runs of calls, drawn with fixed seeds, whose answers must be those of the model. The moods
 * differ in what they draw most, so that elections, long logs, conflicts and snapshots all occur.
 */
public final class RandomRunsTest {
    private static final Checks CHECKS = new Checks("RandomRunsTest");
    private static final int RUNS = 15000;

    /** An object is used for 512 calls: those that are drawn, and then a look at all that can be read. */
    private static final int CALLS = 512;
    private static final int DRAWN = 400;

    /** For each mood, how often a call is drawn; the order is that of the cases in both(). */
    private static final int[][] MOODS = {
        {4, 14, 8, 4, 40, 6, 5, 1, 3, 1, 1, 1, 1, 1, 1, 2, 2, 2, 3, 1, 2},
        {3, 30, 14, 8, 60, 2, 2, 1, 6, 1, 1, 1, 1, 1, 1, 2, 2, 2, 3, 1, 2},
        {6, 30, 16, 8, 70, 10, 2, 3, 9, 1, 1, 1, 1, 1, 1, 2, 2, 2, 3, 1, 2},
        {4, 30, 16, 16, 60, 2, 8, 2, 9, 1, 1, 1, 1, 1, 1, 2, 2, 2, 3, 1, 2},
        {1, 1, 1, 1, 2, 1, 1, 1, 2, 1, 1, 1, 1, 1, 1, 1, 1, 1, 1, 1, 1},
    };

    private final Random random;
    private final int nodes;
    private final int slots;
    private final QuorumLog object;
    private final Model model;
    private final int[] mood;
    private int favourite = 0;
    private int calls = 0;

    private RandomRunsTest(int seed) {
        random = new Random(seed);
        nodes = 2 + random.nextInt(5);
        int cap = random.nextInt(8) == 0 ? random.nextInt(16) : 1 + random.nextInt(6);
        slots = 6 + random.nextInt(random.nextBoolean() ? 6 : 38);
        object = new QuorumLog(nodes, cap, slots);
        model = new Model(nodes, cap, slots);
        mood = MOODS[seed % MOODS.length];
    }

    public static void main(String[] args) {
        int[] seen = new int[6];
        for (int seed = 0; seed < RUNS && CHECKS.isClean(); seed++) {
            new RandomRunsTest(seed).run(seed, seen);
        }
        System.out.println("delivered, by kind: " + Arrays.toString(seen));
        for (int kind = 1; kind <= 5; kind++) {
            CHECKS.holds("kind " + kind + " was delivered often", seen[kind] > RUNS / 2);
        }
        CHECKS.end();
    }

    private void run(int seed, int[] seen) {
        while (calls < DRAWN && CHECKS.isClean()) {
            int call = draw();
            int got = make(seed, call, argument(call), secondArgument(call));
            if (call == 4 && got > 0) {
                seen[got]++;
            }
        }
        lookAtAll(seed);
    }

    private int make(int seed, int call, int a, int b) {
        String what = "seed " + seed + ", call " + calls + " of kind " + call + " (" + a + ", " + b + ")";
        calls++;
        return both(what, call, a, b);
    }

    /** A difference that no call has shown yet is seen here, as far as the calls suffice. */
    private void lookAtAll(int seed) {
        for (int node = 0; node < nodes; node++) {
            for (int reading = 9; reading <= 14; reading++) {
                make(seed, reading, node, 0);
            }
            make(seed, 17, node, 0);
        }
        for (int back = 0; back <= 12; back++) {
            for (int node = 0; node < nodes && calls < CALLS - 1; node++) {
                int i = model.last(node) - back;
                if (i >= model.base(node)) {
                    make(seed, 15, node, i);
                    make(seed, 16, node, i);
                }
            }
        }
    }

    private int draw() {
        int sum = 0;
        for (int weight : mood) {
            sum += weight;
        }
        int rest = random.nextInt(sum);
        int call = 0;
        while (rest >= mood[call]) {
            rest -= mood[call];
            call++;
        }
        // A timeout under a leader is mostly passed over, for else few entries would get far.
        return call == 0 && firstLeader() >= 0 && random.nextInt(4) != 0 ? 4 : call;
    }

    /** Mostly a number that there is, and sometimes one at the edge or far outside. */
    private int number(int most) {
        int luck = random.nextInt(60);
        if (luck == 0) {
            return random.nextInt();
        }
        return luck == 1 ? random.nextInt(2) * (most + 1) - 1 : random.nextInt(most);
    }

    private int takenSlot() {
        if (random.nextInt(12) == 0) {
            return number(slots);
        }
        int start = random.nextInt(4) == 0 ? random.nextInt(slots) : 0;
        for (int i = 0; i < 40; i++) {
            int slot = (start + i) % 40;
            if (model.slot(slot) > 0) {
                return slot;
            }
        }
        return 0;
    }

    /** Mostly the first leader that there is, for the calls that want one. */
    private int someLeader() {
        int leader = firstLeader();
        return leader < 0 || random.nextInt(6) == 0 ? number(nodes) : leader;
    }

    private int firstLeader() {
        for (int node = 0; node < nodes; node++) {
            if (model.role(node) == 6) {
                return node;
            }
        }
        return -1;
    }

    /** Mostly the same one for a while, so that others fall so far behind that they need snapshots. */
    private int somePeer() {
        if (random.nextInt(30) == 0) {
            favourite = random.nextInt(nodes);
        }
        return random.nextInt(4) == 0 ? number(nodes) : favourite;
    }

    private int argument(int call) {
        boolean wantsSlot = (call >= 4 && call <= 6) || call == 20;
        if (wantsSlot) {
            return takenSlot();
        }
        boolean wantsLeader = (call >= 1 && call <= 3) || call == 18;
        return wantsLeader ? someLeader() : number(nodes);
    }

    private int secondArgument(int call) {
        if (call == 1) {
            return somePeer();
        }
        if (call == 2) {
            return random.nextBoolean() ? random.nextInt() : random.nextInt(5);
        }
        return call == 15 || call == 16 ? number(14) : number(nodes);
    }

    /** Makes the call on both; the answer is the object's. */
    private int both(String what, int call, int a, int b) {
        switch (call) {
            case 0: return same(what, object.timeout(a), model.timeout(a));
            case 1: return same(what, object.heartbeat(a, b), model.heartbeat(a, b));
            case 2: return same(what, object.propose(a, b), model.propose(a, b));
            case 3: return same(what, object.compact(a), model.compact(a));
            case 4: return same(what, object.deliver(a), model.deliver(a));
            case 5: return same(what, object.drop(a), model.drop(a));
            case 6: return same(what, object.duplicate(a), model.duplicate(a));
            case 7: return same(what, object.crash(a), model.crash(a));
            case 8: return same(what, object.restart(a), model.restart(a));
            case 9: return same(what, object.role(a), model.role(a));
            case 10: return same(what, object.term(a), model.term(a));
            case 11: return same(what, object.vote(a), model.vote(a));
            case 12: return same(what, object.base(a), model.base(a));
            case 13: return same(what, object.last(a), model.last(a));
            case 14: return same(what, object.commit(a), model.commit(a));
            case 15: return same(what, object.termAt(a, b), model.termAt(a, b));
            case 16: return same(what, object.commandAt(a, b), model.commandAt(a, b));
            case 17: return same(what, object.state(a), model.state(a));
            case 18: return same(what, object.peer(a, b), model.peer(a, b));
            case 19: return same(what, object.pending(), model.pending());
            default: return same(what, object.slot(a), model.slot(a));
        }
    }

    private static int same(String what, int got, int want) {
        CHECKS.due(what, got, want);
        return got;
    }
}
