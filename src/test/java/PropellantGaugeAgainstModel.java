import java.util.ArrayList;
import java.util.List;
import java.util.Random;

/** Runs of calls, chosen by fixed seeds, whose answers are compared with those of the model. */
public final class PropellantGaugeAgainstModel {
    private static final Checks CHECKS = new Checks("against the model");
    private static final int RUNS = 1500;
    private static final int CALLS = 512;
    private static final String[] NAMES = {"a", "b", "aa", "ab", "main", "zzzzzz", "stop"};

    private final Random random;
    private final String run;
    private final PropellantGauge gauge = new PropellantGauge();
    private final Model model = new Model();
    private final List<String> done = new ArrayList<>();
    // Small masses run out while the engines burn, great ones test the arithmetic.
    private final int scale;
    private boolean differs;
    private int calls;

    private PropellantGaugeAgainstModel(int seed) {
        random = new Random(seed);
        run = "run " + seed;
        scale = random.nextInt(4);
    }

    public static void main(String[] args) {
        for (int seed = 0; seed < RUNS; seed++) {
            PropellantGaugeAgainstModel run = new PropellantGaugeAgainstModel(seed);
            if (seed % 5 > 0) {
                run.setUp();
            }
            while (run.calls < CALLS && !run.differs) {
                run.act();
            }
        }
        CHECKS.finish();
    }

    private void same(String call, long got, long want) {
        calls++;
        done.add(call + " = " + want);
        // What an object answers behind its last call is free.
        if (got != want && !differs && calls <= CALLS) {
            differs = true;
            int from = Math.max(0, done.size() - 40);
            CHECKS.due(run + ", call " + calls + ", after " + done.subList(from, done.size() - 1) + ": " + call,
                    got, want);
        }
    }

    private int below(int bound) {
        return random.nextInt(bound);
    }

    /** A value in a range, often at its ends, and now and then just outside of it. */
    private int near(int least, int greatest) {
        switch (below(12)) {
            case 0:
                return least;
            case 1:
                return greatest;
            case 2:
                return below(8) == 0 ? least - 1 : least;
            case 3:
                return below(8) == 0 ? greatest + 1 : greatest;
            default:
                return least + (int) (random.nextDouble() * ((long) greatest - least + 1));
        }
    }

    private int tank() {
        return below(20) == 0 ? near(-1, 4) : below(Math.max(1, model.tankCount()));
    }

    private int engine() {
        return below(20) == 0 ? near(-1, 6) : below(3);
    }

    private int mass() {
        return near(0, new int[] {300, 20000, 2000000, 1000000000}[scale]);
    }

    private int flow() {
        return near(1, new int[] {20, 100, 3000, 100000}[scale]);
    }

    private int ms() {
        return below(6) == 0 ? near(1, 2000) : near(1, new int[] {30, 300, 700, 2000}[scale]);
    }

    private String name() {
        return NAMES[below(NAMES.length)];
    }

    /** A craft that can burn and be gauged; calls that are chosen freely would seldom make one. */
    private void setUp() {
        int tanks = 1 + below(4);
        for (int t = 0; t < tanks; t++) {
            addTank(1 + below(3000), below(2) == 0 ? 0 : Math.max(0, mass() / 10));
            int points = 1 + below(8);
            int greatest = (int) Math.min(1000000000L, 1000L * (1 + Math.max(0, mass())) / (1 + below(3000)));
            for (int p = 0; p < points; p++) {
                addPoint(t, 10000 / points * p + below(10000 / points),
                        greatest / points * p + below(1 + greatest / points));
            }
            load(t, Math.max(0, mass()), below(2) == 0 ? below(1000000) : below(2000));
            if (below(3) == 0) {
                setLeak(t, below(scale == 0 ? 3 : 30));
            }
        }
        int engines = 1 + below(4);
        for (int e = 0; e < engines; e++) {
            addEngine(NAMES[e], Math.max(1, flow()), below(501));
        }
        set(0, below(40));
    }

    private void act() {
        int kind = below(100);
        if (kind < (calls < 60 ? 40 : 15)) {
            build();
        } else if (kind < 65) {
            fly();
        } else if (kind < 68) {
            text();
        } else {
            look();
        }
    }

    private void build() {
        int t = tank();
        switch (below(9)) {
            case 0:
                addTank(near(1, 3000), below(2) == 0 ? 0 : mass());
                break;
            case 1:
                addPoint(t, below(3) == 0 ? near(0, 10000) : below(1000) * below(11),
                        below(3) == 0 ? near(0, 1000000000) : Math.max(0, mass()));
                break;
            case 2:
                addEngine(name(), flow(), near(0, 500));
                break;
            case 3:
                setLeak(t, near(0, below(3) > 0 ? 3 : 1000));
                break;
            case 4:
                setGaugeVariance(t, below(4) == 0 ? (long) (random.nextDouble() * 1.1e12) - 10 : near(0, 1000000));
                break;
            case 5: {
                int what = near(0, 2);
                set(what, what == 0 ? near(0, below(5) == 0 ? 5000 : 50) : near(0, 100));
                break;
            }
            default:
                load(t, mass(), below(2) == 0 ? near(0, 1000000) : near(0, 1000));
                break;
        }
    }

    private void addTank(int density, int residual) {
        same("addTank(" + density + ", " + residual + ")", gauge.addTank(density, residual),
                model.addTank(density, residual));
    }

    private void addPoint(int tank, int level, int volume) {
        same("addPoint(" + tank + ", " + level + ", " + volume + ")", gauge.addPoint(tank, level, volume),
                model.addPoint(tank, level, volume));
    }

    private void addEngine(String name, int flow, int uncertainty) {
        spell(name);
        same("addEngine(" + flow + ", " + uncertainty + ")", gauge.addEngine(flow, uncertainty),
                model.addEngine(flow, uncertainty));
    }

    private void setLeak(int tank, int rate) {
        same("setLeak(" + tank + ", " + rate + ")", gauge.setLeak(tank, rate), model.setLeak(tank, rate));
    }

    private void setGaugeVariance(int tank, long variance) {
        same("setGaugeVariance(" + tank + ", " + variance + ")", gauge.setGaugeVariance(tank, variance),
                model.setGaugeVariance(tank, variance));
    }

    private void set(int what, int value) {
        same("set(" + what + ", " + value + ")", gauge.set(what, value), model.set(what, value));
    }

    private void load(int tank, int mass, int uncertainty) {
        same("load(" + tank + ", " + mass + ", " + uncertainty + ")", gauge.load(tank, mass, uncertainty),
                model.load(tank, mass, uncertainty));
    }

    private void spell(String name) {
        for (char c : name.toCharArray()) {
            same("letter(" + c + ")", gauge.letter(c), model.letter(c));
        }
    }

    private void fly() {
        int t = tank();
        int e = engine();
        switch (below(15)) {
            case 0:
            case 1:
            case 2:
                same("ignite(" + e + ")", gauge.ignite(e), model.ignite(e));
                break;
            case 3:
                same("cutoff()", gauge.cutoff(), model.cutoff());
                break;
            case 4:
            case 5:
            case 6:
            case 7: {
                int ms = ms();
                same("pass(" + ms + ")", gauge.pass(ms), model.pass(ms));
                break;
            }
            case 8: {
                int open = near(0, 1);
                same("setValve(" + e + ", " + t + ", " + open + ")", gauge.setValve(e, t, open),
                        model.setValve(e, t, open));
                break;
            }
            default: {
                int level = likelyLevel(t);
                same("read(" + t + ", " + level + ")", gauge.read(t, level), model.read(t, level));
                break;
            }
        }
    }

    /** Mostly a level whose gauged mass is near the estimate: others would hardly be accepted. */
    private int likelyLevel(int tank) {
        int level = near(0, 10000);
        if (below(4) == 0 || model.volume(tank, 0) < 0) {
            return level;
        }
        long deviation = (long) (random.nextGaussian() * 2 * Math.sqrt(model.mass(tank, 5) + 1000.0));
        long wanted = model.mass(tank, 2) + deviation;
        int low = 0;
        int high = 10000;
        while (low < high) {
            int middle = (low + high) / 2;
            if (model.gaugedMass(tank, middle) < wanted) {
                low = middle + 1;
            } else {
                high = middle;
            }
        }
        return low;
    }

    private void text() {
        same("clearText()", gauge.clearText(), model.clearText());
        StringBuilder text = new StringBuilder();
        int commands = below(5);
        for (int i = 0; i < commands; i++) {
            text.append(command());
        }
        if (below(6) == 0 && text.length() > 0) {
            text.setCharAt(below(text.length()), " ;0a9z".charAt(below(6)));
        }
        for (int i = 0; i < text.length() && i < 101; i++) {
            same("type(" + text.charAt(i) + ")", gauge.type(text.charAt(i)), model.type(text.charAt(i)));
        }
        same("fault()", gauge.fault(), model.fault());
        same("planned()", gauge.planned(), model.planned());
        if (below(3) > 0) {
            same("execute()", gauge.execute(), model.execute());
        }
    }

    private String command() {
        switch (below(8)) {
            case 0:
                return "start " + name() + ";";
            case 1:
                return "stop;";
            case 2:
            case 3:
                return "wait " + ms() + ";";
            case 4:
                return "burn " + name() + " " + ms() + ";";
            case 5:
                return "open " + name() + " " + below(5) + ";";
            case 6:
                return "close " + name() + " " + below(5) + ";";
            default:
                return "read " + below(3) + " " + near(0, 10000) + ";";
        }
    }

    private void look() {
        int t = tank();
        int e = engine();
        switch (below(9)) {
            case 0:
                same("longestBurn(" + e + ")", gauge.longestBurn(e), model.longestBurn(e));
                break;
            case 1:
                same("planned()", gauge.planned(), model.planned());
                break;
            case 2:
                lookAtEngine(e);
                break;
            case 3: {
                int index = near(-1, 24);
                for (int what = 0; what < 4; what++) {
                    same("entry(" + index + ", " + what + ")", gauge.entry(index, what), model.entry(index, what));
                }
                same("entryCount()", gauge.entryCount(), model.entryCount());
                break;
            }
            case 4: {
                int level = near(0, 10000);
                same("volume(" + t + ", " + level + ")", gauge.volume(t, level), model.volume(t, level));
                break;
            }
            case 5:
                spell(name());
                same("engineNamed()", gauge.engineNamed(), model.engineNamed());
                break;
            case 6:
                for (int what = 0; what < 4; what++) {
                    same("burn(" + what + ")", gauge.burn(what), model.burn(what));
                }
                same("time()", gauge.time(), model.time());
                same("tankCount()", gauge.tankCount(), model.tankCount());
                break;
            default:
                for (int what = 0; what < 6; what++) {
                    same("mass(" + t + ", " + what + ")", gauge.mass(t, what), model.mass(t, what));
                }
                same("weight(" + t + ")", gauge.weight(t), model.weight(t));
                same("drift(" + t + ")", gauge.drift(t), model.drift(t));
                break;
        }
    }

    private void lookAtEngine(int e) {
        same("used(" + e + ")", gauge.used(e), model.used(e));
        same("delivered(" + e + ")", gauge.delivered(e), model.delivered(e));
    }
}
