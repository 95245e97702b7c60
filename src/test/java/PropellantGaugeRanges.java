import java.util.ArrayList;
import java.util.List;
import java.util.function.ToLongBiFunction;

/**
 * Each argument of each call, in six states: the least and the greatest value are taken, and the next one on
 * either side is refused as an argument, before any other error and without a change.
 */
public final class PropellantGaugeRanges {
    private static final Checks CHECKS = new Checks("ranges");
    private static final long INVALID = -1;
    private static final long ERROR = -1000000000000000000L;

    /** The values that an argument may have; it is empty if greatest is below least. */
    private record Range(long least, long greatest, boolean isLong) {
        long[] taken() {
            return greatest < least ? new long[0] : new long[] {least, greatest};
        }

        long[] refused() {
            long min = isLong ? Long.MIN_VALUE : Integer.MIN_VALUE;
            long max = isLong ? Long.MAX_VALUE : Integer.MAX_VALUE;
            return new long[] {least - 1, greatest + 1, min, max, min + 1, max - 1};
        }
    }

    private record Call(String name, long error, List<Range> ranges, ToLongBiFunction<PropellantGauge, long[]> done) {
    }

    private final Refusals state;
    private final int tanks;
    private final int engines;
    private final int entries;
    // What a point may have behind the last one in the table of tank 0; that of tank 1, if there are two, is empty.
    private final int leastLevel;
    private final int leastVolume;
    private final List<Call> calls = new ArrayList<>();

    private PropellantGaugeRanges(Refusals state, int tanks, int engines, int leastLevel, int leastVolume) {
        this.state = state;
        this.tanks = tanks;
        this.engines = engines;
        this.entries = state.make().entryCount();
        this.leastLevel = leastLevel;
        this.leastVolume = leastVolume;
    }

    public static void main(String[] args) {
        in(new Refusals(CHECKS, "fresh", States::fresh), 0, 0, 0, 0);
        in(new Refusals(CHECKS, "resting", States::resting), 2, 2, 9001, 9000);
        in(new Refusals(CHECKS, "burning", States::burning), 2, 2, 9001, 9000);
        in(new Refusals(CHECKS, "starved", States::starved), 2, 2, 9001, 9000);
        in(new Refusals(CHECKS, "full", States::full), 4, 6, 8001, 40000);
        in(new Refusals(CHECKS, "full and burning", States::fullBurning), 4, 6, 8001, 40000);
        CHECKS.finish();
    }

    private static void in(Refusals state, int tanks, int engines, int leastLevel, int leastVolume) {
        PropellantGaugeRanges ranges = new PropellantGaugeRanges(state, tanks, engines, leastLevel, leastVolume);
        ranges.listTanks();
        ranges.listOthers();
        for (Call call : ranges.calls) {
            ranges.refuseOneWrong(call);
            ranges.refuseAllWrong(call);
            ranges.takeEnds(call, new long[call.ranges().size()], 0);
        }
    }

    private static Range range(long least, long greatest) {
        return new Range(least, greatest, false);
    }

    private void list(String name, ToLongBiFunction<PropellantGauge, long[]> done, Range... ranges) {
        calls.add(new Call(name, INVALID, List.of(ranges), done));
    }

    private void listTanks() {
        Range tank = range(0, tanks - 1);
        Range level = range(0, 10000);
        list("addTank", (x, a) -> x.addTank((int) a[0], (int) a[1]), range(1, 3000), range(0, 1000000000));
        list("addPoint to tank", (x, a) -> x.addPoint((int) a[0], 10000, 1000000000), tank);
        if (tanks > 0) {
            list("addPoint to tank 0", (x, a) -> x.addPoint(0, (int) a[0], (int) a[1]), range(leastLevel, 10000),
                    range(leastVolume, 1000000000));
        }
        if (tanks == 2) {
            list("addPoint to tank 1", (x, a) -> x.addPoint(1, (int) a[0], (int) a[1]), level,
                    range(0, 1000000000));
        }
        list("volume", (x, a) -> x.volume((int) a[0], (int) a[1]), tank, level);
        list("load", (x, a) -> x.load((int) a[0], (int) a[1], (int) a[2]), tank, range(0, 1000000000),
                range(0, 1000000));
        list("setLeak", (x, a) -> x.setLeak((int) a[0], (int) a[1]), tank, range(0, 1000));
        list("setGaugeVariance", (x, a) -> x.setGaugeVariance((int) a[0], a[1]), tank,
                new Range(1, 1000000000000L, true));
        list("mass", (x, a) -> x.mass((int) a[0], (int) a[1]), tank, range(0, 5));
        list("read", (x, a) -> x.read((int) a[0], (int) a[1]), tank, level);
        list("weight", (x, a) -> x.weight((int) a[0]), tank);
        calls.add(new Call("drift", ERROR, List.of(tank), (x, a) -> x.drift((int) a[0])));
    }

    private void listOthers() {
        Range engine = range(0, engines - 1);
        list("set", (x, a) -> x.set((int) a[0], 50), range(0, 2));
        list("set settling time", (x, a) -> x.set(0, (int) a[0]), range(0, 5000));
        list("set gate", (x, a) -> x.set(1, (int) a[0]), range(1, 100));
        list("set margin", (x, a) -> x.set(2, (int) a[0]), range(0, 100));
        list("letter", (x, a) -> x.letter((int) a[0]), range(97, 122));
        list("addEngine", (x, a) -> x.addEngine((int) a[0], (int) a[1]), range(1, 100000), range(0, 500));
        list("setValve", (x, a) -> x.setValve((int) a[0], (int) a[1], (int) a[2]), engine, range(0, tanks - 1),
                range(0, 1));
        list("used", (x, a) -> x.used((int) a[0]), engine);
        list("delivered", (x, a) -> x.delivered((int) a[0]), engine);
        list("ignite", (x, a) -> x.ignite((int) a[0]), engine);
        list("pass", (x, a) -> x.pass((int) a[0]), range(1, 2000));
        // The answer to burn(0) is -1 too if none burns, which is no error.
        list("burn", (x, a) -> a[0] == 0 ? Math.max(0, x.burn(0)) : x.burn((int) a[0]), range(0, 3));
        calls.add(new Call("entry", ERROR, List.of(range(0, entries - 1), range(0, 3)),
                (x, a) -> x.entry((int) a[0], (int) a[1])));
        list("type", (x, a) -> x.type((int) a[0]), range(32, 126));
        list("longestBurn", (x, a) -> x.longestBurn((int) a[0]), engine);
    }

    /** One argument is wrong, the others are at their least, and then at their greatest. */
    private void refuseOneWrong(Call call) {
        for (int wrong = 0; wrong < call.ranges().size(); wrong++) {
            for (long value : call.ranges().get(wrong).refused()) {
                for (int end = 0; end < 2; end++) {
                    long[] arguments = ends(call, end);
                    arguments[wrong] = value;
                    refuse(call, arguments);
                }
            }
        }
    }

    private void refuseAllWrong(Call call) {
        for (int kind = 0; kind < 4; kind++) {
            long[] arguments = new long[call.ranges().size()];
            for (int i = 0; i < arguments.length; i++) {
                arguments[i] = call.ranges().get(i).refused()[kind];
            }
            refuse(call, arguments);
        }
    }

    private static long[] ends(Call call, int end) {
        long[] arguments = new long[call.ranges().size()];
        for (int i = 0; i < arguments.length; i++) {
            Range range = call.ranges().get(i);
            arguments[i] = end == 0 ? range.least() : range.greatest();
        }
        return arguments;
    }

    private void refuse(Call call, long[] arguments) {
        state.refused(text(call, arguments), x -> call.done().applyAsLong(x, arguments), call.error());
    }

    /** Every choice of ends is taken: another error may stand in the way, but not that of an argument. */
    private void takeEnds(Call call, long[] arguments, int index) {
        if (index == arguments.length) {
            long answer = call.done().applyAsLong(state.make(), arguments);
            if (answer == call.error()) {
                CHECKS.fail(text(call, arguments) + " was refused as an argument");
            }
            return;
        }
        for (long end : call.ranges().get(index).taken()) {
            arguments[index] = end;
            takeEnds(call, arguments, index + 1);
        }
    }

    private static String text(Call call, long[] arguments) {
        StringBuilder s = new StringBuilder(call.name()).append('(');
        for (int i = 0; i < arguments.length; i++) {
            s.append(i == 0 ? "" : ", ").append(arguments[i]);
        }
        return s.append(')').toString();
    }
}
