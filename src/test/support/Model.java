import java.math.BigInteger;
import java.util.ArrayDeque;
import java.util.ArrayList;
import java.util.Deque;
import java.util.List;
import java.util.regex.Matcher;
import java.util.regex.Pattern;

/**
 * The document once more, written apart from the class and with other means (objects, regular expressions,
 * whole numbers without a limit), so that the answers of the two can be compared.
 */
final class Model {
    private static final BigInteger GREATEST_VARIANCE = BigInteger.TEN.pow(15);
    private static final Pattern COMMAND = Pattern.compile(
            "(?<start>start (?<n1>[a-z]{1,6}))|(?<stop>stop)|(?<wait>wait (?<m1>[0-9]{1,4}))"
            + "|(?<burn>burn (?<n2>[a-z]{1,6}) (?<m2>[0-9]{1,4}))"
            + "|(?<valve>(?<way>open|close) (?<n3>[a-z]{1,6}) (?<t1>[0-9]))"
            + "|(?<read>read (?<t2>[0-9]) (?<level>[0-9]{1,5}))");

    private static final class Tank implements Cloneable {
        long density;
        long residual;
        long leak;
        long trueMass;
        long booked;
        BigInteger estimate = BigInteger.ZERO;
        BigInteger variance = BigInteger.ZERO;
        BigInteger gaugeVariance = BigInteger.valueOf(1000000);
        long burnShare;
        List<long[]> points = new ArrayList<>();

        Tank copy() {
            try {
                Tank copy = (Tank) clone();
                copy.points = new ArrayList<>(points);
                return copy;
            } catch (CloneNotSupportedException e) {
                throw new AssertionError(e);
            }
        }
    }

    private static final class Engine {
        String name;
        long flow;
        long uncertainty;
        boolean[] closed = new boolean[4];
        long used;
        long delivered;
    }

    private List<Tank> tanks = new ArrayList<>();
    private List<Engine> engines = new ArrayList<>();
    private Deque<long[]> ledger = new ArrayDeque<>();
    private int[] settings = {500, 9, 20};
    private String buffer = "";
    private String text = "";
    private int time;
    private Engine burning;
    private int burnStart;
    private boolean starved;

    private Model copy() {
        Model m = new Model();
        for (Tank t : tanks) {
            m.tanks.add(t.copy());
        }
        for (Engine e : engines) {
            Engine c = new Engine();
            c.name = e.name;
            c.flow = e.flow;
            c.uncertainty = e.uncertainty;
            c.closed = e.closed.clone();
            c.used = e.used;
            c.delivered = e.delivered;
            m.engines.add(c);
            if (burning == e) {
                m.burning = c;
            }
        }
        m.settings = settings.clone();
        m.text = text;
        m.time = time;
        m.burnStart = burnStart;
        m.starved = starved;
        return m;
    }

    private static boolean out(long value, long least, long greatest) {
        return value < least || value > greatest;
    }

    private boolean noTank(int tank) {
        return out(tank, 0, tanks.size() - 1);
    }

    private boolean noEngine(int engine) {
        return out(engine, 0, engines.size() - 1);
    }

    private void note(long when, long kind, long tank, long amount) {
        ledger.addFirst(new long[] {when, kind, tank, amount});
        if (ledger.size() > 24) {
            ledger.removeLast();
        }
    }

    private static BigInteger big(long value) {
        return BigInteger.valueOf(value);
    }

    private static BigInteger floor(BigInteger a, BigInteger b) {
        BigInteger[] parts = a.divideAndRemainder(b);
        return parts[1].signum() < 0 ? parts[0].subtract(BigInteger.ONE) : parts[0];
    }

    int addTank(int density, int residual) {
        if (out(density, 1, 3000) || out(residual, 0, 1000000000)) {
            return -1;
        }
        if (burning != null) {
            return -2;
        }
        if (tanks.size() == 4) {
            return -3;
        }
        Tank t = new Tank();
        t.density = density;
        t.residual = residual;
        tanks.add(t);
        return tanks.size() - 1;
    }

    int addPoint(int tank, int level, int volume) {
        if (noTank(tank) || out(level, 0, 10000) || out(volume, 0, 1000000000)) {
            return -1;
        }
        List<long[]> points = tanks.get(tank).points;
        if (!points.isEmpty()) {
            long[] last = points.get(points.size() - 1);
            if (level <= last[0] || volume < last[1]) {
                return -1;
            }
        }
        if (points.size() == 8) {
            return -3;
        }
        points.add(new long[] {level, volume});
        return points.size();
    }

    long volume(int tank, int level) {
        if (noTank(tank) || out(level, 0, 10000)) {
            return -1;
        }
        List<long[]> points = tanks.get(tank).points;
        return points.isEmpty() ? -4 : volumeOf(points, level);
    }

    private static long volumeOf(List<long[]> points, int level) {
        long[] a = null;
        for (long[] b : points) {
            if (b[0] == level) {
                return b[1];
            }
            if (b[0] > level) {
                return a == null ? b[1] : a[1] + (b[1] - a[1]) * (level - a[0]) / (b[0] - a[0]);
            }
            a = b;
        }
        return a[1];
    }

    long load(int tank, int mass, int uncertainty) {
        if (noTank(tank) || out(mass, 0, 1000000000) || out(uncertainty, 0, 1000000)) {
            return -1;
        }
        if (burning != null) {
            return -2;
        }
        Tank t = tanks.get(tank);
        long previous = t.trueMass;
        t.trueMass = mass;
        t.booked = mass;
        t.estimate = big(mass);
        t.variance = big(uncertainty).pow(2);
        note(time, 5, tank, mass);
        return previous;
    }

    int setLeak(int tank, int rate) {
        if (noTank(tank) || out(rate, 0, 1000)) {
            return -1;
        }
        int previous = (int) tanks.get(tank).leak;
        tanks.get(tank).leak = rate;
        return previous;
    }

    long setGaugeVariance(int tank, long variance) {
        if (noTank(tank) || out(variance, 1, 1000000000000L)) {
            return -1;
        }
        long previous = tanks.get(tank).gaugeVariance.longValueExact();
        tanks.get(tank).gaugeVariance = big(variance);
        return previous;
    }

    int tankCount() {
        return tanks.size();
    }

    long mass(int tank, int what) {
        if (noTank(tank) || out(what, 0, 5)) {
            return -1;
        }
        Tank t = tanks.get(tank);
        BigInteger reserve = floor(big(settings[2]).multiply(t.variance.sqrt()), big(10));
        BigInteger usable = t.estimate.subtract(big(t.residual)).subtract(reserve).max(BigInteger.ZERO);
        BigInteger[] values = {big(t.trueMass), big(t.booked), t.estimate, usable, big(t.residual), t.variance};
        return values[what].longValueExact();
    }

    int set(int what, int value) {
        int[][] ranges = {{0, 5000}, {1, 100}, {0, 100}};
        if (out(what, 0, 2) || out(value, ranges[what][0], ranges[what][1])) {
            return -1;
        }
        int previous = settings[what];
        settings[what] = value;
        return previous;
    }

    int letter(int letter) {
        if (out(letter, 97, 122)) {
            return -1;
        }
        if (buffer.length() == 6) {
            return -3;
        }
        buffer += (char) letter;
        return buffer.length();
    }

    private int find(String name) {
        for (int e = 0; e < engines.size(); e++) {
            if (engines.get(e).name.equals(name)) {
                return e;
            }
        }
        return -4;
    }

    int addEngine(int flow, int uncertainty) {
        if (out(flow, 1, 100000) || out(uncertainty, 0, 500)) {
            return -1;
        }
        if (buffer.isEmpty() || find(buffer) >= 0) {
            return -2;
        }
        if (engines.size() == 6) {
            return -3;
        }
        Engine e = new Engine();
        e.name = buffer;
        e.flow = flow;
        e.uncertainty = uncertainty;
        engines.add(e);
        buffer = "";
        return engines.size() - 1;
    }

    int engineNamed() {
        int engine = find(buffer);
        if (engine >= 0) {
            buffer = "";
        }
        return engine;
    }

    private int openSet(Engine e) {
        int set = 0;
        for (int t = 0; t < tanks.size(); t++) {
            set += e.closed[t] ? 0 : 1 << t;
        }
        return set;
    }

    int setValve(int engine, int tank, int open) {
        if (noEngine(engine) || noTank(tank) || out(open, 0, 1)) {
            return -1;
        }
        Engine e = engines.get(engine);
        if (burning == e) {
            return -2;
        }
        e.closed[tank] = open == 0;
        return openSet(e);
    }

    long used(int engine) {
        return noEngine(engine) ? -1 : engines.get(engine).used;
    }

    long delivered(int engine) {
        return noEngine(engine) ? -1 : engines.get(engine).delivered;
    }

    int ignite(int engine) {
        if (noEngine(engine)) {
            return -1;
        }
        if (burning != null || openSet(engines.get(engine)) == 0) {
            return -2;
        }
        burning = engines.get(engine);
        burnStart = time;
        starved = false;
        for (Tank t : tanks) {
            t.burnShare = 0;
        }
        return time;
    }

    int cutoff() {
        if (burning == null) {
            return -2;
        }
        long all = 0;
        for (Tank t : tanks) {
            all += t.burnShare;
            BigInteger deviation = big(t.burnShare * burning.uncertainty / 1000);
            t.variance = t.variance.add(deviation.pow(2)).min(GREATEST_VARIANCE);
        }
        note(time, 1, -1, all);
        burning = null;
        return time - burnStart;
    }

    int pass(int ms) {
        if (out(ms, 1, 2000)) {
            return -1;
        }
        if (time + ms > 100000000) {
            return -3;
        }
        for (int i = 0; i < ms; i++) {
            step();
        }
        return time;
    }

    private void step() {
        for (Tank t : tanks) {
            t.trueMass = t.trueMass < t.leak ? 0 : t.trueMass - t.leak;
        }
        if (burning != null) {
            draw();
            bookStep(burning);
        }
        time++;
    }

    private void draw() {
        List<Tank> givers = new ArrayList<>();
        for (int t = 0; t < tanks.size(); t++) {
            if (!burning.closed[t] && tanks.get(t).trueMass > 0) {
                givers.add(tanks.get(t));
            }
        }
        if (givers.isEmpty()) {
            if (!starved) {
                note(time, 4, -1, 0);
            }
            starved = true;
        }
        for (Tank t : givers) {
            long due = share(burning.flow, givers.size(), t == givers.get(0));
            long got = due > t.trueMass ? t.trueMass : due;
            t.trueMass -= got;
            burning.delivered += got;
        }
    }

    private void bookStep(Engine e) {
        List<Tank> givers = new ArrayList<>();
        for (int t = 0; t < tanks.size(); t++) {
            if (!e.closed[t] && tanks.get(t).booked > 0) {
                givers.add(tanks.get(t));
            }
        }
        for (Tank t : givers) {
            long due = share(e.flow, givers.size(), t == givers.get(0));
            long got = due > t.booked ? t.booked : due;
            t.booked -= got;
            t.estimate = t.estimate.subtract(big(got)).max(BigInteger.ZERO);
            t.burnShare += got;
            e.used += got;
        }
    }

    private static long share(long flow, int givers, boolean lowest) {
        long part = flow / givers;
        return lowest ? flow - part * (givers - 1) : part;
    }

    int time() {
        return time;
    }

    int burn(int what) {
        switch (what) {
            case 0:
                return burning == null ? -1 : engines.indexOf(burning);
            case 1:
                return burning == null ? 0 : time - burnStart;
            case 2:
                return settled() ? 1 : 0;
            case 3:
                return burning != null && starved ? 1 : 0;
            default:
                return -1;
        }
    }

    private boolean settled() {
        return burning != null && !starved && time - burnStart >= settings[0];
    }

    int read(int tank, int level) {
        if (noTank(tank) || out(level, 0, 10000)) {
            return -1;
        }
        Tank t = tanks.get(tank);
        if (t.points.isEmpty()) {
            return -2;
        }
        if (!settled()) {
            return 3;
        }
        BigInteger innovation = big(gaugedMass(tank, level)).subtract(t.estimate);
        BigInteger sum = t.variance.add(t.gaugeVariance);
        if (innovation.pow(2).compareTo(big(settings[1]).multiply(sum)) > 0) {
            note(time, 3, tank, innovation.longValueExact());
            return 2;
        }
        BigInteger w = floor(big(1000).multiply(t.variance), sum);
        BigInteger estimate = t.estimate.add(floor(w.multiply(innovation), big(1000))).max(BigInteger.ZERO);
        note(time, 2, tank, estimate.subtract(t.estimate).longValueExact());
        t.estimate = estimate;
        t.variance = floor(t.variance.multiply(big(1000).subtract(w)), big(1000));
        return 1;
    }

    long gaugedMass(int tank, int level) {
        Tank t = tanks.get(tank);
        return volumeOf(t.points, level) * t.density / 1000;
    }

    int weight(int tank) {
        if (noTank(tank)) {
            return -1;
        }
        Tank t = tanks.get(tank);
        return floor(big(1000).multiply(t.variance), t.variance.add(t.gaugeVariance)).intValueExact();
    }

    int entryCount() {
        return ledger.size();
    }

    long entry(int index, int what) {
        if (out(what, 0, 3) || out(index, 0, ledger.size() - 1)) {
            return -1000000000000000000L;
        }
        return new ArrayList<>(ledger).get(index)[what];
    }

    int type(int character) {
        if (out(character, 32, 126)) {
            return -1;
        }
        if (text.length() == 100) {
            return -3;
        }
        text += (char) character;
        return text.length();
    }

    int clearText() {
        int previous = text.length();
        text = "";
        return previous;
    }

    int fault() {
        int start = 0;
        while (start < text.length()) {
            int end = text.indexOf(';', start);
            if (end < 0 || matched(text.substring(start, end)) == null) {
                return start;
            }
            start = end + 1;
        }
        return -4;
    }

    /** The command's parts, or null if it is not of its form. */
    private static Matcher matched(String command) {
        Matcher m = COMMAND.matcher(command);
        if (!m.matches()) {
            return null;
        }
        String ms = m.group("m1") == null ? m.group("m2") : m.group("m1");
        if (ms != null && out(Integer.parseInt(ms), 1, 2000)) {
            return null;
        }
        return m.group("level") != null && out(Integer.parseInt(m.group("level")), 0, 10000) ? null : m;
    }

    int execute() {
        if (fault() != -4) {
            return -2;
        }
        int executed = 0;
        for (String command : text.split(";")) {
            if (command.isEmpty() || !perform(matched(command))) {
                break;
            }
            executed++;
        }
        return executed;
    }

    private boolean perform(Matcher m) {
        if (m.group("start") != null) {
            return ignite(find(m.group("n1"))) >= 0;
        }
        if (m.group("stop") != null) {
            return cutoff() >= 0;
        }
        if (m.group("wait") != null) {
            return pass(Integer.parseInt(m.group("m1"))) >= 0;
        }
        if (m.group("burn") != null) {
            int ms = Integer.parseInt(m.group("m2"));
            if (time + ms > 100000000 || ignite(find(m.group("n2"))) < 0) {
                return false;
            }
            pass(ms);
            cutoff();
            return true;
        }
        if (m.group("valve") != null) {
            int open = m.group("way").equals("open") ? 1 : 0;
            return setValve(find(m.group("n3")), Integer.parseInt(m.group("t1")), open) >= 0;
        }
        return read(Integer.parseInt(m.group("t2")), Integer.parseInt(m.group("level"))) >= 0;
    }

    int longestBurn(int engine) {
        if (noEngine(engine)) {
            return -1;
        }
        if (burning != null) {
            return -2;
        }
        Model trial = copy();
        List<Tank> watched = new ArrayList<>();
        for (int t = 0; t < tanks.size(); t++) {
            if (!engines.get(engine).closed[t] && tanks.get(t).booked > 0) {
                watched.add(trial.tanks.get(t));
            }
        }
        for (int ms = 0; ms <= 5000; ms++) {
            for (Tank t : watched) {
                if (t.estimate.compareTo(big(t.residual)) < 0) {
                    return ms == 0 ? -4 : ms - 1;
                }
            }
            trial.bookStep(trial.engines.get(engine));
        }
        return 5000;
    }

    long planned() {
        if (fault() != -4) {
            return -2;
        }
        Model trial = copy();
        trial.execute();
        long sum = 0;
        for (int e = 0; e < engines.size(); e++) {
            sum += trial.engines.get(e).used - engines.get(e).used;
        }
        return sum;
    }

    long drift(int tank) {
        if (noTank(tank)) {
            return -1000000000000000000L;
        }
        Tank t = tanks.get(tank);
        BigInteger difference = t.estimate.subtract(big(t.booked)).multiply(big(10));
        return floor(difference, t.variance.add(BigInteger.ONE).sqrt()).longValueExact();
    }
}
