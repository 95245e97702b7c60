import java.util.List;
import java.util.function.Consumer;
import java.util.function.ToLongFunction;

/**
 * Looks at calls that are to be refused in a state: each of them is done to one of two objects of the same
 * history, whose snapshots are then the same if the call has changed nothing.
 */
final class Refusals {
    private final Checks checks;
    private final String state;
    private final Consumer<PropellantGauge> history;
    private final List<String> untouched;

    Refusals(Checks checks, String state, Consumer<PropellantGauge> history) {
        this.checks = checks;
        this.state = state;
        this.history = history;
        this.untouched = Snapshot.of(make());
    }

    PropellantGauge make() {
        PropellantGauge x = new PropellantGauge();
        history.accept(x);
        return x;
    }

    /** The call answers an error, twice, and changes nothing. */
    void refused(String call, ToLongFunction<PropellantGauge> done, long error) {
        PropellantGauge x = make();
        checks.due(state + ": " + call, done.applyAsLong(x), error);
        checks.due(state + ": " + call + " again", done.applyAsLong(x), error);
        same(call, Snapshot.of(x));
    }

    /** The call is not refused, but changes nothing either. */
    void unchanged(String call, ToLongFunction<PropellantGauge> done, long answer) {
        refused(call, done, answer);
    }

    private void same(String call, List<String> touched) {
        for (int i = 0; i < Math.max(touched.size(), untouched.size()); i++) {
            String is = i < touched.size() ? touched.get(i) : "nothing";
            String was = i < untouched.size() ? untouched.get(i) : "nothing";
            if (!is.equals(was)) {
                checks.fail(state + ": " + call + " has changed something: " + is + ", due is " + was);
                return;
            }
        }
    }
}
