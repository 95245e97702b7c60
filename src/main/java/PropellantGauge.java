/**
 * Propellant gauging for a spacecraft. The document ../shared/DOC.md tells what each call promises;
 * the checks of a call stand in the order of the document's errors.
 */
public final class PropellantGauge {
    public static final int INVALID_ARGUMENT = -1;
    public static final int NOT_POSSIBLE = -2;
    public static final int CAPACITY_EXCEEDED = -3;
    public static final int NOT_FOUND = -4;
    public static final long ERROR = -1000000000000000000L;
    public static final int ACCEPTED = 1, OUTLIER = 2, UNSETTLED = 3;

    private static final int MAX_TANKS = 4;
    private static final int MAX_POINTS = 8;
    private static final int MAX_ENGINES = 6;
    private static final int MAX_LETTERS = 6;
    private static final int MAX_ENTRIES = 24;
    private static final int MAX_TEXT = 100;

    private static final int MAX_DENSITY = 3000;
    private static final int MAX_MASS = 1000000000;
    private static final int MAX_VOLUME = 1000000000;
    private static final int MAX_LEVEL = 10000;
    private static final int MAX_LOAD_UNCERTAINTY = 1000000;
    private static final int MAX_LEAK = 1000;
    private static final int MAX_FLOW = 100000;
    private static final int MAX_ENGINE_UNCERTAINTY = 500;
    private static final int MAX_SETTLING_TIME = 5000;
    private static final int MAX_GATE = 100;
    private static final int MAX_MARGIN = 100;
    private static final int MAX_PASS = 2000;
    private static final int MAX_TIME = 100000000;
    private static final int MAX_PLANNED_BURN = 5000;
    private static final long MAX_GAUGE_VARIANCE = 1000000000000L;
    private static final long MAX_VARIANCE = 1000000000000000L;

    private static final int NOBODY = -1;

    private static final int ENTRY_BURN_ENDED = 1;
    private static final int ENTRY_ACCEPTED = 2;
    private static final int ENTRY_OUTLIER = 3;
    private static final int ENTRY_STARVING = 4;
    private static final int ENTRY_LOADED = 5;

    private static final int COMMAND_START = 1;
    private static final int COMMAND_STOP = 2;
    private static final int COMMAND_WAIT = 3;
    private static final int COMMAND_BURN = 4;
    private static final int COMMAND_OPEN = 5;
    private static final int COMMAND_CLOSE = 6;
    private static final int COMMAND_READ = 7;

    private final Craft craft;
    // What planned and longestBurn try out is done to this one, so that the craft itself stays as it is.
    private final Craft rehearsal;
    private final CommandText text;
    private int bufferedName;
    private int bufferedLetters;

    public PropellantGauge() {
        craft = new Craft();
        rehearsal = new Craft();
        text = new CommandText();
        bufferedName = 0;
        bufferedLetters = 0;
    }

    // ---- tanks

    public int addTank(int density, int residual) {
        if (!isWithin(density, 1, MAX_DENSITY) || !isWithin(residual, 0, MAX_MASS)) {
            return INVALID_ARGUMENT;
        }
        if (craft.isBurning()) {
            return NOT_POSSIBLE;
        }
        return craft.tanks.append(density, residual);
    }

    public int addPoint(int tank, int level, int volume) {
        if (!craft.tanks.has(tank) || !isWithin(level, 0, MAX_LEVEL) || !isWithin(volume, 0, MAX_VOLUME)) {
            return INVALID_ARGUMENT;
        }
        return craft.tanks.tables[tank].append(level, volume);
    }

    public long volume(int tank, int level) {
        if (!craft.tanks.has(tank) || !isWithin(level, 0, MAX_LEVEL)) {
            return INVALID_ARGUMENT;
        }
        if (craft.tanks.tables[tank].count == 0) {
            return NOT_FOUND;
        }
        return craft.tanks.tables[tank].volumeAt(level);
    }

    public long load(int tank, int mass, int uncertainty) {
        if (!craft.tanks.has(tank) || !isWithin(mass, 0, MAX_MASS)
                || !isWithin(uncertainty, 0, MAX_LOAD_UNCERTAINTY)) {
            return INVALID_ARGUMENT;
        }
        if (craft.isBurning()) {
            return NOT_POSSIBLE;
        }
        long previous = craft.tanks.trueMass[tank];
        craft.tanks.fill(tank, mass, uncertainty);
        craft.ledger.append(craft.now, ENTRY_LOADED, tank, mass);
        return previous;
    }

    public int setLeak(int tank, int rate) {
        if (!craft.tanks.has(tank) || !isWithin(rate, 0, MAX_LEAK)) {
            return INVALID_ARGUMENT;
        }
        int previous = craft.tanks.leak[tank];
        craft.tanks.leak[tank] = rate;
        return previous;
    }

    public long setGaugeVariance(int tank, long variance) {
        if (!craft.tanks.has(tank) || variance < 1 || variance > MAX_GAUGE_VARIANCE) {
            return INVALID_ARGUMENT;
        }
        long previous = craft.tanks.gaugeVariance[tank];
        craft.tanks.gaugeVariance[tank] = variance;
        return previous;
    }

    public int tankCount() {
        return craft.tanks.count;
    }

    public long mass(int tank, int what) {
        if (!craft.tanks.has(tank)) {
            return INVALID_ARGUMENT;
        }
        switch (what) {
            case 0:
                return craft.tanks.trueMass[tank];
            case 1:
                return craft.tanks.booked[tank];
            case 2:
                return craft.tanks.estimate[tank];
            case 3:
                return craft.tanks.usableMass(tank, craft.margin);
            case 4:
                return craft.tanks.residual[tank];
            case 5:
                return craft.tanks.variance[tank];
            default:
                return INVALID_ARGUMENT;
        }
    }

    // ---- settings

    public int set(int what, int value) {
        if (what == 0 && isWithin(value, 0, MAX_SETTLING_TIME)) {
            int previous = craft.settlingTime;
            craft.settlingTime = value;
            return previous;
        }
        if (what == 1 && isWithin(value, 1, MAX_GATE)) {
            int previous = craft.gate;
            craft.gate = value;
            return previous;
        }
        if (what == 2 && isWithin(value, 0, MAX_MARGIN)) {
            int previous = craft.margin;
            craft.margin = value;
            return previous;
        }
        return INVALID_ARGUMENT;
    }

    // ---- engines

    public int letter(int letter) {
        if (!isWithin(letter, 'a', 'z')) {
            return INVALID_ARGUMENT;
        }
        if (bufferedLetters >= MAX_LETTERS) {
            return CAPACITY_EXCEEDED;
        }
        bufferedName = nameWith(bufferedName, letter);
        bufferedLetters++;
        return bufferedLetters;
    }

    public int addEngine(int flow, int uncertainty) {
        if (!isWithin(flow, 1, MAX_FLOW) || !isWithin(uncertainty, 0, MAX_ENGINE_UNCERTAINTY)) {
            return INVALID_ARGUMENT;
        }
        if (bufferedLetters == 0 || craft.engines.find(bufferedName) >= 0) {
            return NOT_POSSIBLE;
        }
        int engine = craft.engines.append(bufferedName, flow, uncertainty);
        if (engine >= 0) {
            emptyNameBuffer();
        }
        return engine;
    }

    public int engineNamed() {
        int engine = craft.engines.find(bufferedName);
        if (engine >= 0) {
            emptyNameBuffer();
        }
        return engine;
    }

    public int setValve(int engine, int tank, int open) {
        return craft.turnValve(engine, tank, open);
    }

    public long used(int engine) {
        return craft.engines.has(engine) ? craft.engines.bookedSum[engine] : INVALID_ARGUMENT;
    }

    public long delivered(int engine) {
        return craft.engines.has(engine) ? craft.engines.deliveredSum[engine] : INVALID_ARGUMENT;
    }

    // ---- time and burns

    public int ignite(int engine) {
        return craft.beginBurn(engine);
    }

    public int cutoff() {
        return craft.endBurn();
    }

    public int pass(int ms) {
        return craft.letTimePass(ms);
    }

    public int time() {
        return craft.now;
    }

    public int burn(int what) {
        switch (what) {
            case 0:
                return craft.burning;
            case 1:
                return craft.burnLength();
            case 2:
                return craft.isSettled() ? 1 : 0;
            case 3:
                return craft.starved ? 1 : 0;
            default:
                return INVALID_ARGUMENT;
        }
    }

    // ---- readings

    public int read(int tank, int level) {
        return craft.takeReading(tank, level);
    }

    public int weight(int tank) {
        return craft.tanks.has(tank) ? craft.tanks.readingWeight(tank) : INVALID_ARGUMENT;
    }

    // ---- ledger

    public int entryCount() {
        return craft.ledger.count;
    }

    public long entry(int index, int what) {
        return craft.ledger.valueOf(index, what);
    }

    // ---- command texts

    public int type(int character) {
        if (!isWithin(character, ' ', '~')) {
            return INVALID_ARGUMENT;
        }
        return text.append((char) character);
    }

    public int clearText() {
        int previous = text.length;
        text.length = 0;
        return previous;
    }

    public int fault() {
        return text.findFault();
    }

    public int execute() {
        return text.findFault() == NOT_FOUND ? performText(craft) : NOT_POSSIBLE;
    }

    // ---- plans

    public int longestBurn(int engine) {
        if (!craft.engines.has(engine)) {
            return INVALID_ARGUMENT;
        }
        if (craft.isBurning()) {
            return NOT_POSSIBLE;
        }
        // A tank that is empty by bookkeeping now doesn't count, even if its estimate is below its residual.
        int watched = craft.engines.open[engine] & craft.tanks.withBookedMass();
        if (craft.tanks.isOneBelowResidual(watched)) {
            return NOT_FOUND;
        }
        rehearsal.copyFrom(craft);
        for (int ms = 0; ms < MAX_PLANNED_BURN; ms++) {
            rehearsal.book(engine);
            if (rehearsal.tanks.isOneBelowResidual(watched)) {
                return ms;
            }
        }
        return MAX_PLANNED_BURN;
    }

    public long planned() {
        if (text.findFault() != NOT_FOUND) {
            return NOT_POSSIBLE;
        }
        rehearsal.copyFrom(craft);
        performText(rehearsal);
        return rehearsal.engines.bookedInAll() - craft.engines.bookedInAll();
    }

    public long drift(int tank) {
        return craft.tanks.has(tank) ? craft.tanks.driftOf(tank) : ERROR;
    }

    // ---- helpers

    private void emptyNameBuffer() {
        bufferedName = 0;
        bufferedLetters = 0;
    }

    /** Returns how many commands of a text without a fault were performed before one that can't be. */
    private int performText(Craft target) {
        int performed = 0;
        int start = 0;
        // No command is shorter than one character, so the text's size bounds their number.
        for (int n = 0; n < MAX_TEXT && start < text.length; n++) {
            if (!text.parseAt(start) || !performCommand(target)) {
                return performed;
            }
            performed++;
            start = text.at;
        }
        return performed;
    }

    /** Does the command that was parsed last; returns false, and does nothing, if it is not possible. */
    private boolean performCommand(Craft target) {
        switch (text.command) {
            case COMMAND_START:
                return target.beginBurn(target.engines.find(text.name)) >= 0;
            case COMMAND_STOP:
                return target.endBurn() >= 0;
            case COMMAND_WAIT:
                return target.letTimePass(text.number) >= 0;
            case COMMAND_BURN:
                return target.burnFor(target.engines.find(text.name), text.number);
            case COMMAND_OPEN:
                return target.turnValve(target.engines.find(text.name), text.tank, 1) >= 0;
            case COMMAND_CLOSE:
                return target.turnValve(target.engines.find(text.name), text.tank, 0) >= 0;
            case COMMAND_READ:
                return target.takeReading(text.tank, text.number) >= 0;
            default:
                return false;
        }
    }

    private static boolean isWithin(int value, int least, int greatest) {
        return value >= least && value <= greatest;
    }

    /**
     * A name is held as a number in base 27 with the digits 1 to 26: so names of up to 6 letters fit an int,
     * two names are equal exactly if their numbers are, and 0 is no name.
     */
    private static int nameWith(int name, int letter) {
        return name * 27 + (letter - 'a' + 1);
    }

    /** The square root, rounded down, of a value from 0 to somewhat above the greatest variance. */
    private static long squareRoot(long value) {
        long root = 0;
        for (long bit = 1L << 25; bit > 0; bit >>= 1) {
            long greater = root + bit;
            if (greater * greater <= value) {
                root = greater;
            }
        }
        return root;
    }

    /** The points of a tank's level table, in ascending order of the levels. */
    private static final class LevelTable {
        int count;
        final int[] levels;
        final int[] volumes;

        LevelTable() {
            count = 0;
            levels = new int[MAX_POINTS];
            volumes = new int[MAX_POINTS];
        }

        int append(int level, int volume) {
            if (count > 0 && (level <= levels[count - 1] || volume < volumes[count - 1])) {
                return INVALID_ARGUMENT;
            }
            if (count >= MAX_POINTS) {
                return CAPACITY_EXCEEDED;
            }
            levels[count] = level;
            volumes[count] = volume;
            count++;
            return count;
        }

        /** The volume for a level; 0 if there is no point. */
        long volumeAt(int level) {
            if (count == 0) {
                return 0;
            }
            if (level <= levels[0]) {
                return volumes[0];
            }
            for (int i = 1; i < count; i++) {
                if (level <= levels[i]) {
                    return between(i - 1, i, level);
                }
            }
            return volumes[count - 1];
        }

        private long between(int a, int b, int level) {
            long span = levels[b] - levels[a];
            if (span <= 0) {
                return volumes[a];
            }
            long rise = volumes[b] - volumes[a];
            return volumes[a] + Math.floorDiv(rise * (level - levels[a]), span);
        }

        void copyFrom(LevelTable other) {
            count = other.count;
            System.arraycopy(other.levels, 0, levels, 0, MAX_POINTS);
            System.arraycopy(other.volumes, 0, volumes, 0, MAX_POINTS);
        }
    }

    /** The tanks, a row for each of their values. */
    private static final class Tanks {
        int count;
        final int[] density;
        final int[] residual;
        final int[] leak;
        final long[] trueMass;
        final long[] booked;
        final long[] estimate;
        final long[] variance;
        final long[] gaugeVariance;
        final LevelTable[] tables;

        Tanks() {
            count = 0;
            density = new int[MAX_TANKS];
            residual = new int[MAX_TANKS];
            leak = new int[MAX_TANKS];
            trueMass = new long[MAX_TANKS];
            booked = new long[MAX_TANKS];
            estimate = new long[MAX_TANKS];
            variance = new long[MAX_TANKS];
            gaugeVariance = new long[MAX_TANKS];
            tables = new LevelTable[MAX_TANKS];
            for (int t = 0; t < MAX_TANKS; t++) {
                gaugeVariance[t] = 1000000;
                tables[t] = new LevelTable();
            }
        }

        boolean has(int tank) {
            return tank >= 0 && tank < count;
        }

        /** The set of all tanks, as a bit mask. */
        int all() {
            return (1 << count) - 1;
        }

        int append(int newDensity, int newResidual) {
            if (count >= MAX_TANKS) {
                return CAPACITY_EXCEEDED;
            }
            density[count] = newDensity;
            residual[count] = newResidual;
            count++;
            return count - 1;
        }

        void fill(int tank, int mass, int uncertainty) {
            trueMass[tank] = mass;
            booked[tank] = mass;
            estimate[tank] = mass;
            variance[tank] = (long) uncertainty * uncertainty;
        }

        void leakOut(int ms) {
            for (int t = 0; t < count; t++) {
                trueMass[t] = Math.max(0, trueMass[t] - (long) leak[t] * ms);
            }
        }

        void growVariance(int tank, long deviation) {
            variance[tank] = Math.min(MAX_VARIANCE, variance[tank] + deviation * deviation);
        }

        long gaugedMass(int tank, int level) {
            return tables[tank].volumeAt(level) * density[tank] / 1000;
        }

        /** The variance of a reading's innovation; never 0, for the gauging's part of it is not. */
        long innovationVariance(int tank) {
            return Math.max(1, variance[tank] + gaugeVariance[tank]);
        }

        int readingWeight(int tank) {
            return (int) (1000 * variance[tank] / innovationVariance(tank));
        }

        long usableMass(int tank, int margin) {
            long reserve = margin * squareRoot(variance[tank]) / 10;
            return Math.max(0, estimate[tank] - residual[tank] - reserve);
        }

        long driftOf(int tank) {
            long unit = Math.max(1, squareRoot(variance[tank] + 1));
            return Math.floorDiv(10 * (estimate[tank] - booked[tank]), unit);
        }

        int withBookedMass() {
            int set = 0;
            for (int t = 0; t < count; t++) {
                if (booked[t] > 0) {
                    set |= 1 << t;
                }
            }
            return set;
        }

        boolean isOneBelowResidual(int set) {
            for (int t = 0; t < count; t++) {
                if ((set >> t & 1) == 1 && estimate[t] < residual[t]) {
                    return true;
                }
            }
            return false;
        }

        void copyFrom(Tanks other) {
            count = other.count;
            for (int t = 0; t < MAX_TANKS; t++) {
                density[t] = other.density[t];
                residual[t] = other.residual[t];
                leak[t] = other.leak[t];
                trueMass[t] = other.trueMass[t];
                booked[t] = other.booked[t];
                estimate[t] = other.estimate[t];
                variance[t] = other.variance[t];
                gaugeVariance[t] = other.gaugeVariance[t];
                tables[t].copyFrom(other.tables[t]);
            }
        }
    }

    /** The engines, a row for each of their values. */
    private static final class Engines {
        int count;
        final int[] names;
        final int[] flow;
        final int[] uncertainty;
        // Bits of tanks that don't exist yet are set too, since tanks that are added later are open.
        final int[] open;
        final long[] bookedSum;
        final long[] deliveredSum;

        Engines() {
            count = 0;
            names = new int[MAX_ENGINES];
            flow = new int[MAX_ENGINES];
            uncertainty = new int[MAX_ENGINES];
            open = new int[MAX_ENGINES];
            bookedSum = new long[MAX_ENGINES];
            deliveredSum = new long[MAX_ENGINES];
        }

        boolean has(int engine) {
            return engine >= 0 && engine < count;
        }

        int find(int name) {
            for (int e = 0; e < count && e < MAX_ENGINES; e++) {
                if (names[e] == name) {
                    return e;
                }
            }
            return NOT_FOUND;
        }

        int append(int name, int newFlow, int newUncertainty) {
            if (count >= MAX_ENGINES) {
                return CAPACITY_EXCEEDED;
            }
            names[count] = name;
            flow[count] = newFlow;
            uncertainty[count] = newUncertainty;
            open[count] = (1 << MAX_TANKS) - 1;
            count++;
            return count - 1;
        }

        long bookedInAll() {
            long sum = 0;
            for (int e = 0; e < MAX_ENGINES; e++) {
                sum += bookedSum[e];
            }
            return sum;
        }

        void copyFrom(Engines other) {
            count = other.count;
            for (int e = 0; e < MAX_ENGINES; e++) {
                names[e] = other.names[e];
                flow[e] = other.flow[e];
                uncertainty[e] = other.uncertainty[e];
                open[e] = other.open[e];
                bookedSum[e] = other.bookedSum[e];
                deliveredSum[e] = other.deliveredSum[e];
            }
        }
    }

    /** The latest entries, in rings, so that a new one takes the place of the oldest. */
    private static final class Ledger {
        int count;
        private int latest;
        private final int[] times;
        private final int[] kinds;
        private final int[] tanks;
        private final long[] amounts;

        Ledger() {
            count = 0;
            latest = MAX_ENTRIES - 1;
            times = new int[MAX_ENTRIES];
            kinds = new int[MAX_ENTRIES];
            tanks = new int[MAX_ENTRIES];
            amounts = new long[MAX_ENTRIES];
        }

        void append(int when, int kind, int tank, long amount) {
            latest = Math.floorMod(latest + 1, MAX_ENTRIES);
            times[latest] = when;
            kinds[latest] = kind;
            tanks[latest] = tank;
            amounts[latest] = amount;
            count = Math.min(MAX_ENTRIES, count + 1);
        }

        long valueOf(int index, int what) {
            if (index < 0 || index >= count) {
                return ERROR;
            }
            int place = Math.floorMod(latest - index, MAX_ENTRIES);
            switch (what) {
                case 0:
                    return times[place];
                case 1:
                    return kinds[place];
                case 2:
                    return tanks[place];
                case 3:
                    return amounts[place];
                default:
                    return ERROR;
            }
        }
    }

    /** The spacecraft: its tanks and engines, the time, the present burn, and the settings. */
    private static final class Craft {
        final Tanks tanks;
        final Engines engines;
        final Ledger ledger;
        int now;
        int settlingTime;
        int gate;
        int margin;
        int burning;
        boolean starved;
        private int burnStart;
        private final long[] burnShares;
        private final long[] stepShares;

        Craft() {
            tanks = new Tanks();
            engines = new Engines();
            ledger = new Ledger();
            now = 0;
            settlingTime = 500;
            gate = 9;
            margin = 20;
            burning = NOBODY;
            starved = false;
            burnStart = 0;
            burnShares = new long[MAX_TANKS];
            stepShares = new long[MAX_TANKS];
        }

        boolean isBurning() {
            return engines.has(burning);
        }

        int burnLength() {
            return isBurning() ? now - burnStart : 0;
        }

        boolean isSettled() {
            return isBurning() && !starved && burnLength() >= settlingTime;
        }

        int openTanks(int engine) {
            return engines.open[engine] & tanks.all();
        }

        int turnValve(int engine, int tank, int open) {
            if (!engines.has(engine) || !tanks.has(tank) || !isWithin(open, 0, 1)) {
                return INVALID_ARGUMENT;
            }
            if (engine == burning) {
                return NOT_POSSIBLE;
            }
            int bit = 1 << tank;
            engines.open[engine] = open == 1 ? engines.open[engine] | bit : engines.open[engine] & ~bit;
            return openTanks(engine);
        }

        int beginBurn(int engine) {
            if (!engines.has(engine)) {
                return INVALID_ARGUMENT;
            }
            if (isBurning() || openTanks(engine) == 0) {
                return NOT_POSSIBLE;
            }
            burning = engine;
            burnStart = now;
            for (int t = 0; t < MAX_TANKS; t++) {
                burnShares[t] = 0;
            }
            return now;
        }

        int endBurn() {
            if (!isBurning()) {
                return NOT_POSSIBLE;
            }
            int lasted = burnLength();
            long sum = 0;
            for (int t = 0; t < tanks.count; t++) {
                tanks.growVariance(t, burnShares[t] * engines.uncertainty[burning] / 1000);
                sum += burnShares[t];
            }
            ledger.append(now, ENTRY_BURN_ENDED, NOBODY, sum);
            burning = NOBODY;
            starved = false;
            return lasted;
        }

        /** Begins a burn, lets time pass and ends it; returns false, and does nothing, if that is not possible. */
        boolean burnFor(int engine, int ms) {
            // Whether time can pass is asked first: a burn that has begun could not be taken back.
            if (checkPass(ms) < 0 || beginBurn(engine) < 0) {
                return false;
            }
            letTimePass(ms);
            endBurn();
            return true;
        }

        /** Returns the error that letting time pass would have, else 0. */
        private int checkPass(int ms) {
            if (!isWithin(ms, 1, MAX_PASS)) {
                return INVALID_ARGUMENT;
            }
            return now > MAX_TIME - ms ? CAPACITY_EXCEEDED : 0;
        }

        int letTimePass(int ms) {
            int error = checkPass(ms);
            if (error < 0) {
                return error;
            }
            if (!isBurning()) {
                tanks.leakOut(ms);
                now += ms;
                return now;
            }
            for (int step = 0; step < ms; step++) {
                tanks.leakOut(1);
                deliver(burning);
                book(burning);
                now++;
            }
            return now;
        }

        private void deliver(int engine) {
            long sum = divideFlow(engine, tanks.trueMass);
            for (int t = 0; t < tanks.count; t++) {
                tanks.trueMass[t] -= stepShares[t];
            }
            engines.deliveredSum[engine] += sum;
            // A tank that shares gives at least 1 in all, so nothing is delivered only if none shares.
            if (sum == 0 && !starved) {
                starved = true;
                ledger.append(now, ENTRY_STARVING, NOBODY, 0);
            }
        }

        void book(int engine) {
            long sum = divideFlow(engine, tanks.booked);
            for (int t = 0; t < tanks.count; t++) {
                tanks.booked[t] -= stepShares[t];
                tanks.estimate[t] = Math.max(0, tanks.estimate[t] - stepShares[t]);
                burnShares[t] += stepShares[t];
            }
            engines.bookedSum[engine] += sum;
        }

        /** Puts what each tank gives in one step by these masses into stepShares; returns the sum. */
        private long divideFlow(int engine, long[] masses) {
            int open = engines.open[engine];
            int sharers = 0;
            for (int t = 0; t < tanks.count; t++) {
                stepShares[t] = 0;
                if ((open >> t & 1) == 1 && masses[t] > 0) {
                    sharers++;
                }
            }
            if (sharers == 0) {
                return 0;
            }
            long part = engines.flow[engine] / sharers;
            long rest = engines.flow[engine] % sharers;
            long sum = 0;
            for (int t = 0; t < tanks.count; t++) {
                if ((open >> t & 1) == 1 && masses[t] > 0) {
                    stepShares[t] = Math.min(masses[t], part + rest);
                    sum += stepShares[t];
                    // Only the lowest of the tanks gives the rest of the division.
                    rest = 0;
                }
            }
            return sum;
        }

        int takeReading(int tank, int level) {
            if (!tanks.has(tank) || !isWithin(level, 0, MAX_LEVEL)) {
                return INVALID_ARGUMENT;
            }
            if (tanks.tables[tank].count == 0) {
                return NOT_POSSIBLE;
            }
            if (!isSettled()) {
                return UNSETTLED;
            }
            // At most 3000000000 either way, so that its square is still a long.
            long innovation = tanks.gaugedMass(tank, level) - tanks.estimate[tank];
            if (innovation * innovation > gate * tanks.innovationVariance(tank)) {
                ledger.append(now, ENTRY_OUTLIER, tank, innovation);
                return OUTLIER;
            }
            acceptReading(tank, innovation);
            return ACCEPTED;
        }

        private void acceptReading(int tank, long innovation) {
            long weight = tanks.readingWeight(tank);
            long previous = tanks.estimate[tank];
            tanks.estimate[tank] = Math.max(0, previous + Math.floorDiv(weight * innovation, 1000L));
            tanks.variance[tank] = tanks.variance[tank] * (1000 - weight) / 1000;
            ledger.append(now, ENTRY_ACCEPTED, tank, tanks.estimate[tank] - previous);
        }

        /** Takes over all of another craft but its ledger, which no later call depends on. */
        void copyFrom(Craft other) {
            tanks.copyFrom(other.tanks);
            engines.copyFrom(other.engines);
            now = other.now;
            settlingTime = other.settlingTime;
            gate = other.gate;
            margin = other.margin;
            burning = other.burning;
            starved = other.starved;
            burnStart = other.burnStart;
            System.arraycopy(other.burnShares, 0, burnShares, 0, MAX_TANKS);
        }
    }

    /** The text, and the command of it that was parsed last. */
    private static final class CommandText {
        int length;
        // Where the parsing has come to: behind the semicolon after a command that is of its form.
        int at;
        int command;
        int name;
        int tank;
        int number;
        private final char[] characters;

        CommandText() {
            length = 0;
            at = 0;
            command = 0;
            name = 0;
            tank = 0;
            number = 0;
            characters = new char[MAX_TEXT];
        }

        int append(char character) {
            if (length >= MAX_TEXT) {
                return CAPACITY_EXCEEDED;
            }
            characters[length] = character;
            length++;
            return length;
        }

        int findFault() {
            int start = 0;
            for (int n = 0; n < MAX_TEXT && start < length; n++) {
                if (!parseAt(start)) {
                    return start;
                }
                start = at;
            }
            return NOT_FOUND;
        }

        /** Parses the command that begins at a position; returns false if it is not of a command's form. */
        boolean parseAt(int start) {
            at = start;
            return parseCommand() && skip(";");
        }

        private boolean parseCommand() {
            if (skip("start ")) {
                command = COMMAND_START;
                return parseName();
            }
            if (skip("stop")) {
                command = COMMAND_STOP;
                return true;
            }
            if (skip("wait ")) {
                command = COMMAND_WAIT;
                return parseNumber(4, 1, MAX_PASS);
            }
            if (skip("burn ")) {
                command = COMMAND_BURN;
                return parseName() && skip(" ") && parseNumber(4, 1, MAX_PASS);
            }
            if (skip("open ")) {
                command = COMMAND_OPEN;
                return parseName() && skip(" ") && parseTank();
            }
            if (skip("close ")) {
                command = COMMAND_CLOSE;
                return parseName() && skip(" ") && parseTank();
            }
            if (skip("read ")) {
                command = COMMAND_READ;
                return parseTank() && skip(" ") && parseNumber(5, 0, MAX_LEVEL);
            }
            return false;
        }

        /** Goes on behind a word if it stands here, else stays here. */
        private boolean skip(String word) {
            for (int i = 0; i < word.length(); i++) {
                if (characterAt(at + i) != word.charAt(i)) {
                    return false;
                }
            }
            at += word.length();
            return true;
        }

        private boolean parseName() {
            int letters = 0;
            name = 0;
            while (letters < MAX_LETTERS && isWithin(characterAt(at), 'a', 'z')) {
                name = nameWith(name, characterAt(at));
                at++;
                letters++;
            }
            return letters > 0;
        }

        private boolean parseTank() {
            boolean parsed = parseNumber(1, 0, 9);
            tank = number;
            return parsed;
        }

        private boolean parseNumber(int maxDigits, int least, int greatest) {
            int digits = 0;
            number = 0;
            while (digits < maxDigits && isWithin(characterAt(at), '0', '9')) {
                number = number * 10 + (characterAt(at) - '0');
                at++;
                digits++;
            }
            return digits > 0 && isWithin(number, least, greatest);
        }

        /** A character of the text, or 0, which no text contains, outside of it. */
        private char characterAt(int position) {
            return position >= 0 && position < length && position < MAX_TEXT ? characters[position] : 0;
        }
    }
}
