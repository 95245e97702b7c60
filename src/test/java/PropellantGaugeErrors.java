import java.util.function.Consumer;

/**
 * Every error but that of an argument, the order of the errors, and that a refused call, and a call that only
 * asks, changes nothing. (The arguments are looked at in PropellantGaugeRanges.)
 */
public final class PropellantGaugeErrors {
    private static final Checks CHECKS = new Checks("errors");
    private static final long INVALID = -1;
    private static final long NOT_POSSIBLE = -2;
    private static final long CAPACITY = -3;
    private static final long NOT_FOUND = -4;
    private static final long UNSETTLED = 3;

    private static final Refusals FRESH = in("fresh", States::fresh);
    private static final Refusals RESTING = in("resting", States::resting);
    private static final Refusals BURNING = in("burning", States::burning);
    private static final Refusals STARVED = in("starved", States::starved);
    private static final Refusals FULL = in("full", States::full);
    private static final Refusals FULL_BURNING = in("full and burning", States::fullBurning);

    public static void main(String[] args) {
        addTank();
        addPoint();
        volume();
        load();
        letter();
        addEngine();
        engineNamed();
        setValve();
        ignite();
        cutoff();
        pass();
        read();
        type();
        fault();
        executeAndPlanned();
        commandsThatDoNothing();
        longestBurn();
        for (Refusals state : new Refusals[] {FRESH, RESTING, BURNING, STARVED, FULL, FULL_BURNING}) {
            askingChangesNothing(state);
        }
        CHECKS.finish();
    }

    private static Refusals in(String state, Consumer<PropellantGauge> history) {
        return new Refusals(CHECKS, state, history);
    }

    private static void addTank() {
        BURNING.refused("2 addTank during a burn", x -> x.addTank(1, 0), NOT_POSSIBLE);
        STARVED.refused("2 addTank during a burn", x -> x.addTank(3000, 1000000000), NOT_POSSIBLE);
        FULL.refused("2 addTank of a fifth", x -> x.addTank(1, 0), CAPACITY);
        FULL_BURNING.refused("2 not possible rather than capacity", x -> x.addTank(1, 0), NOT_POSSIBLE);
        FULL_BURNING.refused("2 invalid rather than not possible", x -> x.addTank(0, 0), INVALID);
        FULL.refused("2 invalid rather than capacity", x -> x.addTank(1, -1), INVALID);
    }

    private static void addPoint() {
        for (int t = 0; t < 4; t++) {
            int tank = t;
            FULL.refused("3 addPoint of a ninth", x -> x.addPoint(tank, 8001, 40000), CAPACITY);
            FULL.refused("3 the same level rather than capacity", x -> x.addPoint(tank, 8000, 40000), INVALID);
            FULL.refused("3 a smaller volume rather than capacity", x -> x.addPoint(tank, 8001, 39999), INVALID);
            FULL_BURNING.refused("3 addPoint of a ninth", x -> x.addPoint(tank, 10000, 1000000000), CAPACITY);
        }
        RESTING.refused("3 the same level", x -> x.addPoint(0, 9000, 9000), INVALID);
        RESTING.refused("3 a lower level", x -> x.addPoint(0, 8999, 9000), INVALID);
        RESTING.refused("3 a smaller volume", x -> x.addPoint(0, 9001, 8999), INVALID);
        Refusals topped = in("a point at the greatest level", x -> {
            x.addTank(1000, 0);
            x.addPoint(0, 10000, 5);
        });
        topped.refused("3 no level is above", x -> x.addPoint(0, 10000, 6), INVALID);
        topped.refused("3 no level is above, beyond the range", x -> x.addPoint(0, 10001, 6), INVALID);
    }

    private static void volume() {
        RESTING.refused("4 an empty table", x -> x.volume(1, 0), NOT_FOUND);
        RESTING.refused("4 an empty table, greatest level", x -> x.volume(1, 10000), NOT_FOUND);
        BURNING.refused("4 an empty table", x -> x.volume(1, 5000), NOT_FOUND);
        RESTING.refused("4 invalid rather than not found", x -> x.volume(1, 10001), INVALID);
    }

    private static void load() {
        BURNING.refused("5 load during a burn", x -> x.load(0, 9, 9), NOT_POSSIBLE);
        STARVED.refused("5 load during a burn", x -> x.load(1, 9, 9), NOT_POSSIBLE);
        FULL_BURNING.refused("5 load during a burn", x -> x.load(3, 9, 9), NOT_POSSIBLE);
        BURNING.refused("5 invalid rather than not possible", x -> x.load(2, 9, 9), INVALID);
        BURNING.refused("5 invalid mass rather than not possible", x -> x.load(0, -1, 9), INVALID);
    }

    private static void letter() {
        FULL.refused("11 a seventh letter", x -> x.letter(97), CAPACITY);
        FULL_BURNING.refused("11 a seventh letter", x -> x.letter(122), CAPACITY);
        FULL.refused("11 invalid rather than capacity", x -> x.letter(96), INVALID);
        FULL.refused("11 invalid rather than capacity", x -> x.letter(123), INVALID);
    }

    private static void addEngine() {
        FRESH.refused("12 an empty buffer", x -> x.addEngine(1, 0), NOT_POSSIBLE);
        FRESH.refused("12 invalid rather than not possible", x -> x.addEngine(1, 501), INVALID);
        Refusals known = in("a known name in the buffer", x -> {
            States.burning(x);
            x.letter('c');
        });
        known.refused("12 a name that an engine has", x -> x.addEngine(5, 5), NOT_POSSIBLE);
        known.refused("12 invalid rather than not possible", x -> x.addEngine(0, 5), INVALID);
        Refusals first = in("the name of the first engine in the buffer", x -> {
            Checks.engine(x, "a", 1, 0);
            x.letter('a');
        });
        first.refused("12 the name of the first engine", x -> x.addEngine(5, 5), NOT_POSSIBLE);
        FULL.refused("12 a seventh engine", x -> x.addEngine(5, 5), CAPACITY);
        FULL_BURNING.refused("12 a seventh engine", x -> x.addEngine(5, 5), CAPACITY);
        FULL.refused("12 invalid rather than capacity", x -> x.addEngine(100001, 5), INVALID);
        Refusals sixEngines = in("six engines and an empty buffer", x -> sixEngines(x));
        sixEngines.refused("12 an empty buffer rather than capacity", x -> x.addEngine(1, 0), NOT_POSSIBLE);
        Refusals sixAndAName = in("six engines and the name of the last", x -> {
            sixEngines(x);
            x.letter('f');
        });
        sixAndAName.refused("12 a known name rather than capacity", x -> x.addEngine(1, 0), NOT_POSSIBLE);
    }

    private static void sixEngines(PropellantGauge x) {
        for (char name = 'a'; name <= 'f'; name++) {
            Checks.engine(x, String.valueOf(name), 1, 0);
        }
    }

    private static void engineNamed() {
        FRESH.refused("13 an empty buffer", x -> x.engineNamed(), NOT_FOUND);
        RESTING.refused("13 no such name: ab of abc", x -> x.engineNamed(), NOT_FOUND);
        BURNING.refused("13 no such name: ab of abc", x -> x.engineNamed(), NOT_FOUND);
        FULL.refused("13 no such name of six letters", x -> x.engineNamed(), NOT_FOUND);
        Refusals sixEngines = in("six engines and an empty buffer", x -> sixEngines(x));
        sixEngines.refused("13 an empty buffer", x -> x.engineNamed(), NOT_FOUND);
    }

    private static void setValve() {
        for (int t = 0; t < 2; t++) {
            int tank = t;
            BURNING.refused("14 open during its burn", x -> x.setValve(0, tank, 1), NOT_POSSIBLE);
            BURNING.refused("14 close during its burn", x -> x.setValve(0, tank, 0), NOT_POSSIBLE);
            STARVED.refused("14 close during its burn", x -> x.setValve(0, tank, 0), NOT_POSSIBLE);
        }
        BURNING.refused("14 invalid rather than not possible", x -> x.setValve(0, 0, 2), INVALID);
        BURNING.refused("14 no such tank rather than not possible", x -> x.setValve(0, 2, 1), INVALID);
        FULL_BURNING.refused("14 close during its burn", x -> x.setValve(1, 3, 0), NOT_POSSIBLE);
        CHECKS.due("14 during a burn of another engine", BURNING.make().setValve(1, 0, 1), 3);
        CHECKS.due("14 when no engine burns", RESTING.make().setValve(0, 1, 0), 1);
    }

    private static void ignite() {
        BURNING.refused("17 during its burn", x -> x.ignite(0), NOT_POSSIBLE);
        BURNING.refused("17 during a burn of another", x -> x.ignite(1), NOT_POSSIBLE);
        BURNING.refused("17 invalid rather than not possible", x -> x.ignite(2), INVALID);
        STARVED.refused("17 during a burn that has starved", x -> x.ignite(1), NOT_POSSIBLE);
        FULL_BURNING.refused("17 the last engine during a burn", x -> x.ignite(5), NOT_POSSIBLE);
        Refusals noTank = in("an engine without a tank", x -> Checks.engine(x, "a", 1, 0));
        noTank.refused("17 no tank", x -> x.ignite(0), NOT_POSSIBLE);
        Refusals closed = in("all valves are closed", x -> {
            States.full(x);
            for (int t = 0; t < 4; t++) {
                x.setValve(4, t, 0);
            }
        });
        closed.refused("17 no tank is open", x -> x.ignite(4), NOT_POSSIBLE);
        CHECKS.due("17 another engine", closed.make().ignite(3), 0);
        for (int t = 0; t < 4; t++) {
            PropellantGauge x = closed.make();
            x.setValve(4, t, 1);
            CHECKS.due("17 one open tank is enough: " + t, x.ignite(4), 0);
        }
    }

    private static void cutoff() {
        for (Refusals state : new Refusals[] {FRESH, RESTING, FULL}) {
            state.refused("18 none burns", x -> x.cutoff(), NOT_POSSIBLE);
        }
    }

    private static void pass() {
        // So late a time takes more than 512 calls; this looks at what the limit's words say beyond them.
        Refusals late = in("one millisecond before the greatest time", x -> {
            for (int i = 0; i < 49999; i++) {
                x.pass(2000);
            }
            x.pass(1999);
            States.burning(x);
        });
        PropellantGauge end = late.make();
        CHECKS.due("19 the time stays in a craft that could not let it pass", end.time(), 99999999);
        late.refused("19 beyond the greatest time", x -> x.pass(2), CAPACITY);
        late.refused("19 far beyond the greatest time", x -> x.pass(2000), CAPACITY);
        late.refused("19 invalid rather than capacity", x -> x.pass(2001), INVALID);
        late.refused("19 invalid rather than capacity", x -> x.pass(0), INVALID);
        CHECKS.due("19 up to the greatest time", end.pass(1), 100000000);
        CHECKS.due("19 beyond it", end.pass(1), CAPACITY);
    }

    private static void read() {
        RESTING.refused("22 an empty table", x -> x.read(1, 0), NOT_POSSIBLE);
        BURNING.refused("22 an empty table, settled", x -> x.read(1, 10000), NOT_POSSIBLE);
        STARVED.refused("22 an empty table, starved", x -> x.read(1, 5), NOT_POSSIBLE);
        BURNING.refused("22 invalid rather than not possible", x -> x.read(1, 10001), INVALID);
        BURNING.refused("22 invalid rather than not possible", x -> x.read(1, -1), INVALID);
        RESTING.unchanged("22 none burns", x -> x.read(0, 4900), UNSETTLED);
        STARVED.unchanged("22 starved", x -> x.read(0, 100), UNSETTLED);
        Refusals short1 = in("one millisecond before it has settled", x -> {
            States.resting(x);
            x.ignite(0);
            x.pass(9);
        });
        short1.unchanged("22 unsettled", x -> x.read(0, 4880), UNSETTLED);
    }

    private static void type() {
        FULL.refused("26 a character of 101", x -> x.type(59), CAPACITY);
        FULL.refused("26 a character of 101", x -> x.type(32), CAPACITY);
        FULL_BURNING.refused("26 a character of 101", x -> x.type(126), CAPACITY);
        FULL.refused("26 invalid rather than capacity", x -> x.type(31), INVALID);
        FULL.refused("26 invalid rather than capacity", x -> x.type(127), INVALID);
    }

    private static void fault() {
        FRESH.refused("28 an empty text", x -> x.fault(), NOT_FOUND);
        RESTING.refused("28 no fault", x -> x.fault(), NOT_FOUND);
        FULL_BURNING.refused("28 no fault in 100 characters", x -> x.fault(), NOT_FOUND);
        FULL.unchanged("28 the fault", x -> x.fault(), 99);
    }

    private static void executeAndPlanned() {
        FULL.refused("29 a fault in the last character", x -> x.execute(), NOT_POSSIBLE);
        FULL.refused("31 a fault in the last character", x -> x.planned(), NOT_POSSIBLE);
        for (String text : new String[] {"wait 5;stop", ";", "wait 5;wait 2001;", "start a;wait 5;stop;x;"}) {
            Refusals faulty = in("the text " + text, x -> {
                States.resting(x);
                Checks.write(x, text);
            });
            faulty.refused("29 execute", x -> x.execute(), NOT_POSSIBLE);
            faulty.refused("31 planned", x -> x.planned(), NOT_POSSIBLE);
        }
    }

    /** Texts whose first command can't be done: it does nothing, and neither does what stands behind it. */
    private static void commandsThatDoNothing() {
        String[] resting = {"stop;", "start b;", "start ab;", "start abcd;", "burn b 1;", "burn aa 2000;", "open b 0;",
            "close b 0;", "open a 2;", "open a 9;", "close abc 2;", "read 2 0;", "read 9 10000;", "read 1 5;"};
        for (String command : resting) {
            doesNothing("resting", States::resting, command);
        }
        String[] burning = {"start a;", "start abc;", "burn a 1;", "burn abc 1;", "open a 0;", "open a 1;", "close a 0;",
            "close a 1;", "read 1 0;", "start b;", "burn b 5;"};
        for (String command : burning) {
            doesNothing("burning", States::burning, command);
            doesNothing("starved", States::starved, command);
        }
        Consumer<PropellantGauge> closed = x -> {
            States.resting(x);
            x.setValve(1, 1, 0);
        };
        doesNothing("all closed", closed, "start abc;");
        doesNothing("all closed", closed, "burn abc 7;");
    }

    private static void doesNothing(String state, Consumer<PropellantGauge> history, String command) {
        Refusals text = in(state + ", text '" + command + "wait 9;'", x -> {
            history.accept(x);
            Checks.write(x, command + "wait 9;");
        });
        text.unchanged("29 execute", x -> x.execute(), 0);
        text.unchanged("31 planned", x -> x.planned(), 0);
    }

    private static void longestBurn() {
        BURNING.refused("30 during its burn", x -> x.longestBurn(0), NOT_POSSIBLE);
        BURNING.refused("30 during a burn of another", x -> x.longestBurn(1), NOT_POSSIBLE);
        BURNING.refused("30 invalid rather than not possible", x -> x.longestBurn(2), INVALID);
        Refusals below = in("an estimate is below its residual", x -> {
            States.resting(x);
            x.load(1, 699, 0);
        });
        below.refused("30 below it now", x -> x.longestBurn(0), NOT_FOUND);
        below.refused("30 below it now", x -> x.longestBurn(1), NOT_FOUND);
        below.refused("30 invalid rather than not found", x -> x.longestBurn(2), INVALID);
        Refusals belowInABurn = in("an estimate is below its residual in a burn", x -> {
            States.resting(x);
            x.load(1, 699, 0);
            x.ignite(1);
        });
        belowInABurn.refused("30 not possible rather than not found", x -> x.longestBurn(1), NOT_POSSIBLE);
    }

    private static void askingChangesNothing(Refusals state) {
        PropellantGauge y = state.make();
        for (int i = 0; i < 6; i++) {
            int n = i;
            state.unchanged("4 volume", x -> x.volume(n, 4000), y.volume(n, 4000));
            state.unchanged("9 mass", x -> x.mass(0, n), y.mass(0, n));
            state.unchanged("15 used", x -> x.used(n), y.used(n));
            state.unchanged("16 delivered", x -> x.delivered(n), y.delivered(n));
            state.unchanged("21 burn", x -> x.burn(n), y.burn(n));
            state.unchanged("23 weight", x -> x.weight(n), y.weight(n));
            state.unchanged("25 entry", x -> x.entry(n, n), y.entry(n, n));
            state.unchanged("30 longestBurn", x -> x.longestBurn(n), y.longestBurn(n));
            state.unchanged("32 drift", x -> x.drift(n), y.drift(n));
        }
        state.unchanged("8 tankCount", x -> x.tankCount(), y.tankCount());
        state.unchanged("20 time", x -> x.time(), y.time());
        state.unchanged("24 entryCount", x -> x.entryCount(), y.entryCount());
        state.unchanged("28 fault", x -> x.fault(), y.fault());
        state.unchanged("31 planned", x -> x.planned(), y.planned());
    }
}
