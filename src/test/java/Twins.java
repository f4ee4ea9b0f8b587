import java.util.ArrayList;
import java.util.List;
import java.util.function.Supplier;
import java.util.function.ToIntFunction;

/**
 * A refused call must change nothing. Two objects are made by the same calls, and one of them gets
 * the refused one, too: what can be read of the two stays alike, also after all that waits has been
 * delivered, which would show a change inside a message or a voter.
 */
final class Twins {
    private Twins() {
    }

    static void refused(Checks checks, Supplier<QuorumLog> made, ToIntFunction<QuorumLog> call, int due) {
        QuorumLog x = made.get();
        QuorumLog twin = made.get();
        checks.due("the refused call", call.applyAsInt(x), due);
        checks.holds("that nothing has changed", look(x).equals(look(twin)));
        Runs.settle(x);
        Runs.settle(twin);
        checks.holds("that nothing has changed for later calls", look(x).equals(look(twin)));
    }

    /** All that the face tells, in few enough calls that an object can be looked at twice. */
    private static List<Integer> look(QuorumLog x) {
        List<Integer> seen = new ArrayList<>();
        for (int node = 0; x.role(node) != QuorumLog.BAD; node++) {
            lookAtNode(x, node, seen);
        }
        seen.add(x.pending());
        int content = 0;
        for (int slot = 0; content != QuorumLog.BAD; slot++) {
            content = x.slot(slot);
            seen.add(content);
        }
        return seen;
    }

    private static void lookAtNode(QuorumLog x, int node, List<Integer> seen) {
        seen.add(x.role(node));
        seen.add(x.term(node));
        seen.add(x.vote(node));
        seen.add(x.base(node));
        seen.add(x.last(node));
        seen.add(x.commit(node));
        seen.add(x.state(node));
        for (int peer = 0; peer < 5; peer++) {
            seen.add(x.peer(node, peer));
        }
        for (int i = x.base(node); i <= x.last(node); i++) {
            seen.add(x.termAt(node, i));
            seen.add(x.commandAt(node, i));
        }
    }
}
