import java.util.ArrayList;
import java.util.List;
import java.util.function.Supplier;
import java.util.function.ToLongFunction;

/** Counts the answers that are as due, and prints those that are not. */
final class Check {
    private static final int KEPT = 5;

    private final String name;
    private int passed = 0;
    private int failed = 0;

    Check(String name) {
        this.name = name;
    }

    void due(String call, long got, long want) {
        if (got == want) {
            passed++;
        } else {
            failed++;
            System.out.println(name + ": " + call + " answered " + got + ", due is " + want);
        }
    }

    /** A call that answers as due, and neither changes anything nor is recorded: a question, or an error. */
    void still(String call, Supplier<BridgeRounds> fixture, ToLongFunction<BridgeRounds> act, long want) {
        BridgeRounds before = fixture.get();
        BridgeRounds after = fixture.get();
        due(call, act.applyAsLong(after), want);
        due(call + ": fault", after.textFault(), before.textFault());
        due(call + ": length of the text", after.clearText(), before.clearText());
        due(call + ": nothing changes", states(after).equals(states(before)) ? 1 : 0, 1);
    }

    /** A call that answers as due, and is recorded as one call. */
    void recorded(String call, Supplier<BridgeRounds> fixture, ToLongFunction<BridgeRounds> act, long want) {
        BridgeRounds before = fixture.get();
        BridgeRounds after = fixture.get();
        due(call, act.applyAsLong(after), want);
        List<Long> due = states(before);
        due.add(0, after.digest());
        if (due.size() > KEPT + 1) {
            due.remove(KEPT + 1);
        }
        due(call + ": length of the text", after.clearText(), before.clearText());
        due(call + ": recorded", states(after).equals(due) ? 1 : 0, 1);
    }

    /** The digests of the present state and of all in the history, the latest first; empties the history. */
    private List<Long> states(BridgeRounds x) {
        List<Long> digests = new ArrayList<>();
        digests.add(x.digest());
        int left = x.undo();
        while (left >= 0 && digests.size() <= KEPT + 1) {
            digests.add(x.digest());
            int next = x.undo();
            due("undo() after undo()", next, left == 0 ? BridgeRounds.BAD_STATE : left - 1);
            left = next;
        }
        return digests;
    }

    int passed() {
        return passed;
    }

    int failed() {
        return failed;
    }

    void end() {
        System.out.println(passed + " passed, " + failed + " failed");
        if (failed != 0) {
            System.exit(1);
        }
    }
}
