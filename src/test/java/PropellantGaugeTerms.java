/** Each sentence of the section Terms that names a boundary, apart from the fixed limits and the texts. */
public final class PropellantGaugeTerms {
    private static final Checks CHECKS = new Checks("terms");

    public static void main(String[] args) {
        volumesBetweenPoints();
        volumesOutsideOfThePoints();
        valvesAreOpenInitially();
        theFlowIsDividedAndTheLowestGivesTheRest();
        onlyTanksWithMassShare();
        aTankGivesAllItHas();
        starvingNeedsThatNoOpenTankHasMass();
        atMostOneEngineBurns();
        theLeakIsTakenInAnyTime();
        theLeakIsNotBelow0();
        theLeakComesBeforeTheEngine();
        sharesAreBookedByBookedMasses();
        theEstimateIsNotBelow0();
        theVarianceGrowsAtTheEnd();
        settledAtTheSettlingTime();
        settledOnlyWithoutStarving();
        settledOnlyWithoutInterruption();
        theGate();
        weightAndVarianceAreRoundedDown();
        negativeInnovationsAreRoundedDown();
        theGaugedMassIsRoundedDown();
        usableMass();
        driftIsRoundedDown();
        entriesHaveTheirTimes();
        CHECKS.finish();
    }

    // ---- level tables

    private static void volumesBetweenPoints() {
        PropellantGauge x = new PropellantGauge();
        x.addTank(1000, 0);
        x.addPoint(0, 10, 5);
        x.addPoint(0, 17, 15);
        for (int l = 10; l <= 17; l++) {
            due("volume at " + l, x.volume(0, l), 5 + 10 * (l - 10) / 7);
        }
        x.addPoint(0, 18, 16);
        x.addPoint(0, 20, 1000000000);
        due("neighbouring levels", x.volume(0, 18), 16);
        due("half of an odd rise is rounded down", x.volume(0, 19), 16 + 499999992);
        PropellantGauge y = new PropellantGauge();
        y.addTank(1000, 0);
        y.addPoint(0, 0, 0);
        y.addPoint(0, 10000, 1000000000);
        due("the widest table at 1", y.volume(0, 1), 100000);
        due("the widest table at 9999", y.volume(0, 9999), 999900000);
        PropellantGauge z = new PropellantGauge();
        z.addTank(1000, 0);
        z.addPoint(0, 0, 7);
        z.addPoint(0, 10000, 8);
        due("a rise of 1, one before its end", z.volume(0, 9999), 7);
        due("a rise of 1, at its end", z.volume(0, 10000), 8);
        PropellantGauge flat = new PropellantGauge();
        flat.addTank(1000, 0);
        flat.addPoint(0, 0, 1000000000);
        due("volumes need not increase", flat.addPoint(0, 1, 1000000000), 2);
        due("nor does the volume then", flat.volume(0, 1), 1000000000);
    }

    private static void volumesOutsideOfThePoints() {
        PropellantGauge x = new PropellantGauge();
        x.addTank(1000, 0);
        x.addPoint(0, 100, 50);
        for (int l : new int[] {0, 99, 100, 101, 10000}) {
            due("one point, at " + l, x.volume(0, l), 50);
        }
        x.addPoint(0, 200, 80);
        due("below the first", x.volume(0, 99), 50);
        due("at the first", x.volume(0, 100), 50);
        due("above the last", x.volume(0, 201), 80);
        due("at the last", x.volume(0, 200), 80);
        due("at the greatest level", x.volume(0, 10000), 80);
        due("at the least level", x.volume(0, 0), 50);
    }

    // ---- burns

    private static void valvesAreOpenInitially() {
        PropellantGauge x = new PropellantGauge();
        x.addTank(1000, 0);
        x.addTank(1000, 0);
        engine(x, "a", 3, 0);
        due("tanks that exist are open", x.setValve(0, 1, 1), 3);
        x.setValve(0, 1, 0);
        x.addTank(1000, 0);
        due("a tank that is added later is open", x.setValve(0, 0, 1), 5);
        x.addTank(1000, 0);
        due("and the last one", x.setValve(0, 0, 0), 12);
        engine(x, "b", 3, 0);
        due("a new engine has all of them open", x.setValve(1, 3, 1), 15);
        due("the answer is the set behind the change", x.setValve(1, 3, 0), 7);
        due("a closed valve is closed again", x.setValve(1, 3, 0), 7);
        due("an open valve is opened again", x.setValve(1, 0, 1), 7);
    }

    /** For each flow up to 9 and each set of tanks: the share of each tank by hand. */
    private static void theFlowIsDividedAndTheLowestGivesTheRest() {
        for (int flow = 1; flow <= 9; flow++) {
            for (int set = 1; set < 16; set++) {
                PropellantGauge x = craft(4, 100, flow, 0);
                for (int t = 0; t < 4; t++) {
                    x.setValve(0, t, set >> t & 1);
                }
                x.ignite(0);
                x.pass(1);
                int sharers = Integer.bitCount(set);
                int lowest = Integer.numberOfTrailingZeros(set);
                for (int t = 0; t < 4; t++) {
                    int share = (set >> t & 1) == 0 ? 0 : flow / sharers + (t == lowest ? flow % sharers : 0);
                    String what = "flow " + flow + ", set " + set + ", tank " + t;
                    due(what + ", true", x.mass(t, 0), 100 - share);
                    due(what + ", booked", x.mass(t, 1), 100 - share);
                    due(what + ", estimated", x.mass(t, 2), 100 - share);
                }
                due("delivered, flow " + flow + ", set " + set, x.delivered(0), flow);
                due("used, flow " + flow + ", set " + set, x.used(0), flow);
            }
        }
        PropellantGauge greatest = craft(3, 1000000000, 100000, 0);
        burnFor(greatest, 0, 1);
        due("the greatest flow, lowest", greatest.mass(0, 0), 1000000000 - 33334);
        due("the greatest flow, highest", greatest.mass(2, 0), 1000000000 - 33333);
    }

    private static void onlyTanksWithMassShare() {
        PropellantGauge x = craft(3, 0, 10, 0);
        x.load(1, 1, 0);
        x.load(2, 50, 0);
        x.ignite(0);
        x.pass(1);
        due("a tank with 1 shares", x.mass(1, 0), 0);
        due("the other gives its half only", x.mass(2, 0), 45);
        x.pass(1);
        due("an empty tank does not share", x.mass(2, 0), 35);
        due("and stays empty", x.mass(1, 0), 0);
        PropellantGauge y = craft(4, 50, 11, 0);
        y.load(0, 0, 0);
        y.setValve(0, 1, 0);
        burnFor(y, 0, 1);
        due("the lowest of those that share gives the rest", y.mass(2, 0), 44);
        due("and by bookkeeping too", y.mass(2, 1), 44);
        due("the other one gives its share", y.mass(3, 0), 45);
    }

    private static void aTankGivesAllItHas() {
        int[] masses = {4, 5, 6};
        int[] left = {0, 0, 1};
        int[] delivered = {9, 10, 10};
        for (int i = 0; i < 3; i++) {
            PropellantGauge x = craft(2, 100, 10, 0);
            x.load(1, masses[i], 0);
            x.ignite(0);
            x.pass(1);
            String what = "a share of 5 from " + masses[i];
            due(what + ": left", x.mass(1, 0), left[i]);
            due(what + ": booked left", x.mass(1, 1), left[i]);
            due(what + ": the other gives no more", x.mass(0, 0), 95);
            due(what + ": delivered", x.delivered(0), delivered[i]);
            due(what + ": used", x.used(0), delivered[i]);
            due(what + ": that is no starving", x.burn(3), 0);
        }
        PropellantGauge lowest = craft(2, 100, 11, 0);
        lowest.load(0, 5, 0);
        lowest.ignite(0);
        lowest.pass(1);
        due("the lowest has its share but not the rest", lowest.delivered(0), 10);
        due("the rest is not taken from another", lowest.mass(1, 0), 95);
        lowest.pass(1);
        due("then the other one is the lowest", lowest.mass(1, 0), 84);
    }

    private static void starvingNeedsThatNoOpenTankHasMass() {
        PropellantGauge x = craft(2, 0, 10, 0);
        x.load(1, 11, 0);
        x.ignite(0);
        x.pass(1);
        due("1 is left", x.mass(1, 0), 1);
        x.pass(1);
        due("the last 1 is delivered", x.delivered(0), 11);
        due("no starving in that step", x.burn(3), 0);
        x.pass(1);
        due("starving in the next", x.burn(3), 1);
        due("nothing is delivered", x.delivered(0), 11);
        due("one entry", x.entry(0, 1), 4);
        due("its time is before the step", x.entry(0, 0), 2);
        int entries = x.entryCount();
        x.pass(2000);
        due("starving begins once in a burn", x.entryCount(), entries);
        x.cutoff();
        x.ignite(0);
        due("not before the first step of a burn", x.burn(3), 0);
        x.pass(1);
        due("but in it", x.burn(3), 1);
        due("with an entry in each burn", x.entry(0, 0), 2003);
        PropellantGauge closed = craft(2, 50, 10, 0);
        closed.load(0, 0, 0);
        closed.setValve(0, 1, 0);
        closed.ignite(0);
        closed.pass(1);
        due("a closed tank does not help", closed.burn(3), 1);
        due("and keeps its mass", closed.mass(1, 0), 50);
    }

    private static void atMostOneEngineBurns() {
        PropellantGauge x = craft(1, 1000, 10, 0);
        engine(x, "b", 1, 0);
        x.ignite(1);
        due("the other can't begin", x.ignite(0), -2);
        x.pass(5);
        due("only one has used something", x.used(0), 0);
        due("the one that burns", x.used(1), 5);
        due("it is this one", x.burn(0), 1);
    }

    // ---- leaks

    private static void theLeakIsTakenInAnyTime() {
        PropellantGauge x = craft(2, 10000, 10, 0);
        due("no leak initially", x.setLeak(0, 3), 0);
        x.setValve(0, 0, 0);
        x.pass(4);
        due("when no engine burns", x.mass(0, 0), 9988);
        due("from no other tank", x.mass(1, 0), 10000);
        x.ignite(0);
        x.pass(4);
        due("while an engine burns, from a closed tank", x.mass(0, 0), 9976);
        x.setLeak(1, 1);
        x.pass(1);
        due("together with the engine", x.mass(1, 0), 10000 - 50 - 1);
        due("it is not booked", x.mass(1, 1), 9950);
        due("and not estimated", x.mass(1, 2), 9950);
        due("and not delivered", x.delivered(0), 50);
        x.setLeak(1, 0);
        x.pass(1);
        due("a leak that has ended", x.mass(1, 0), 9939);
    }

    private static void theLeakIsNotBelow0() {
        int[] masses = {0, 1, 2999, 3000, 3001};
        int[] left = {0, 0, 0, 0, 1};
        for (int i = 0; i < masses.length; i++) {
            PropellantGauge x = craft(2, 0, 10, 0);
            x.load(1, masses[i], 0);
            x.setLeak(1, 1000);
            x.pass(3);
            due("3000 leaked from " + masses[i], x.mass(1, 0), left[i]);
            PropellantGauge y = craft(2, 100, 10, 0);
            y.load(1, masses[i], 0);
            y.setLeak(1, 1000);
            y.setValve(0, 1, 0);
            y.ignite(0);
            y.pass(3);
            due("3000 leaked in a burn from " + masses[i], y.mass(1, 0), left[i]);
            due("that is booked still", y.mass(1, 1), masses[i]);
        }
    }

    private static void theLeakComesBeforeTheEngine() {
        int[] masses = {6, 7, 8, 16, 17, 18};
        int[] delivered = {0, 0, 1, 9, 10, 10};
        int[] starved = {1, 1, 0, 0, 0, 0};
        for (int i = 0; i < masses.length; i++) {
            PropellantGauge x = craft(1, masses[i], 10, 0);
            x.setLeak(0, 7);
            x.ignite(0);
            x.pass(1);
            String what = "a leak of 7 and a flow of 10 from " + masses[i];
            due(what + ": delivered", x.delivered(0), delivered[i]);
            due(what + ": starved", x.burn(3), starved[i]);
            due(what + ": left", x.mass(0, 0), Math.max(0, masses[i] - 7 - delivered[i]));
            due(what + ": booked", x.used(0), Math.min(10, masses[i]));
        }
        PropellantGauge y = craft(2, 100, 10, 0);
        y.load(0, 5, 0);
        y.setLeak(0, 5);
        y.ignite(0);
        y.pass(1);
        due("a tank that the leak has emptied does not share", y.mass(1, 0), 90);
        due("but by bookkeeping it does", y.mass(1, 1), 95);
    }

    // ---- bookkeeping

    private static void sharesAreBookedByBookedMasses() {
        PropellantGauge x = craft(2, 100, 10, 0);
        x.setLeak(0, 1000);
        x.pass(1);
        x.setLeak(0, 0);
        x.ignite(0);
        x.pass(4);
        due("truly tank 1 gives all", x.mass(1, 0), 60);
        due("by bookkeeping it gives half", x.mass(1, 1), 80);
        due("and tank 0 the other", x.mass(0, 1), 80);
        x.pass(16);
        due("the booked mass ends at 0", x.mass(0, 1), 0);
        due("so does the other", x.mass(1, 1), 0);
        due("all of it was used", x.used(0), 200);
        due("though less was delivered", x.delivered(0), 100);
        x.pass(1);
        due("nothing more is booked", x.used(0), 200);
        x.cutoff();
        due("the amount is what was booked", x.entry(0, 3), 200);
    }

    private static void theEstimateIsNotBelow0() {
        int[] levels = {0, 9, 10, 11};
        int[] left = {0, 0, 0, 1};
        for (int i = 0; i < levels.length; i++) {
            PropellantGauge x = gauged(100, 1000000, 10);
            x.setGaugeVariance(0, 1);
            x.set(0, 0);
            x.ignite(0);
            x.read(0, levels[i]);
            // The weight is 999, and what it adds is rounded down: so the reading becomes the estimate.
            due("the estimate of a reading of " + levels[i], x.mass(0, 2), levels[i]);
            x.pass(1);
            due("10 taken from " + levels[i], x.mass(0, 2), left[i]);
            due("the booked mass goes on", x.mass(0, 1), 90);
            due("the whole share is used", x.used(0), 10);
            x.pass(2000);
            due("at last the estimate is 0", x.mass(0, 2), 0);
            due("and nothing is usable", x.mass(0, 3), 0);
            x.cutoff();
            due("the whole shares count", x.entry(0, 3), 100);
        }
    }

    private static void theVarianceGrowsAtTheEnd() {
        int[] uncertainties = {0, 1, 9, 10, 11, 199, 200, 500};
        for (int u : uncertainties) {
            PropellantGauge x = craft(1, 1000, 10, u);
            x.load(0, 1000, 2);
            x.ignite(0);
            x.pass(10);
            due("not before the end, uncertainty " + u, x.mass(0, 5), 4);
            x.cutoff();
            long root = 100 * u / 1000;
            due("a share of 100, uncertainty " + u, x.mass(0, 5), 4 + root * root);
            x.ignite(0);
            x.cutoff();
            due("a burn without time adds nothing, uncertainty " + u, x.mass(0, 5), 4 + root * root);
        }
        PropellantGauge two = craft(2, 1000, 3, 500);
        two.setValve(0, 0, 0);
        burnFor(two, 0, 1);
        due("a tank without a share", two.mass(0, 5), 0);
        due("the tank with all of it", two.mass(1, 5), 1);
        burnFor(two, 0, 1);
        due("each burn is squared alone", two.mass(1, 5), 2);
        burnFor(two, 0, 2);
        due("a longer one as a whole", two.mass(1, 5), 2 + 9);
    }

    // ---- settling

    private static void settledAtTheSettlingTime() {
        for (int settling : new int[] {1, 2, 500, 2000}) {
            PropellantGauge x = gauged(100000, 100, 1);
            due("the settling time is 500 initially", x.set(0, settling), 500);
            x.ignite(0);
            if (settling > 1) {
                x.pass(settling - 1);
            }
            due("one less than " + settling, x.burn(2), 0);
            due("a reading then", x.read(0, 10000), 3);
            x.pass(1);
            due("just " + settling, x.burn(2), 1);
            due("a reading then", x.read(0, 0), 2);
            x.pass(1);
            due("one more than " + settling, x.burn(2), 1);
        }
        PropellantGauge y = gauged(100000, 100, 1);
        y.set(0, 0);
        due("none burns: not settled even with 0", y.burn(2), 0);
        due("nor a reading", y.read(0, 0), 3);
        y.ignite(0);
        due("settled at once with 0", y.burn(2), 1);
        due("and a reading", y.read(0, 0), 2);
        y.set(0, 1);
        due("a new settling time counts at once", y.burn(2), 0);
        y.pass(1);
        due("from the beginning of the burn", y.burn(2), 1);
        y.cutoff();
        due("a burn that has ended lasts 0", y.burn(1), 0);
        due("and has no engine", y.burn(0), -1);
        due("not behind the end", y.burn(2), 0);
        due("nor a reading behind the end", y.read(0, 0), 3);
    }

    private static void settledOnlyWithoutStarving() {
        PropellantGauge x = gauged(5, 100, 1);
        x.set(0, 3);
        x.ignite(0);
        x.pass(5);
        due("settled until the tank is empty", x.burn(2), 1);
        due("a reading of the empty tank", x.read(0, 0), 1);
        x.pass(1);
        due("starved", x.burn(2), 0);
        due("a reading when it has starved", x.read(0, 0), 3);
        x.set(0, 0);
        due("not even with a settling time of 0", x.burn(2), 0);
        x.pass(100);
        due("nor later in this burn", x.burn(2), 0);
        x.cutoff();
        x.ignite(0);
        due("but at the beginning of the next", x.burn(2), 1);
    }

    private static void settledOnlyWithoutInterruption() {
        PropellantGauge x = gauged(10000, 100, 1);
        engine(x, "b", 1, 0);
        x.set(0, 20);
        x.ignite(0);
        x.pass(19);
        x.cutoff();
        x.ignite(0);
        due("it has lasted anew", x.burn(1), 0);
        x.pass(1);
        due("a burn that begins at once is another one", x.burn(2), 0);
        x.cutoff();
        x.ignite(1);
        x.pass(19);
        due("of another engine too", x.burn(2), 0);
        x.pass(1);
        due("until it has lasted itself", x.burn(2), 1);
    }

    // ---- readings

    private static void theGate() {
        int[] gates = {1, 4, 9, 100};
        int[] roots = {1, 2, 3, 10};
        for (int i = 0; i < gates.length; i++) {
            for (int sign = -1; sign <= 1; sign += 2) {
                // The variances are 64 and 36 together, so that their root is 10.
                int greatest = 10 * roots[i];
                PropellantGauge x = gauged(1000, 8, 1);
                x.setGaugeVariance(0, 36);
                due("the gate is 9 initially", x.set(1, gates[i]), 9);
                x.set(0, 0);
                x.ignite(0);
                String what = "gate " + gates[i] + ", innovation " + sign * (greatest + 1);
                due(what, x.read(0, 1000 + sign * (greatest + 1)), 2);
                due(what + ": the estimate stays", x.mass(0, 2), 1000);
                due(what + ": the variance stays", x.mass(0, 5), 64);
                due(what + ": its entry is the innovation", x.entry(0, 3), sign * (greatest + 1));
                what = "gate " + gates[i] + ", innovation " + sign * greatest;
                due(what, x.read(0, 1000 + sign * greatest), 1);
                long added = Math.floorDiv(640L * sign * greatest, 1000L);
                due(what + ": the estimate grows", x.mass(0, 2), 1000 + added);
                due(what + ": the variance shrinks", x.mass(0, 5), 64 * 360 / 1000);
                due(what + ": its entry is what was added", x.entry(0, 3), added);
                due(what + ": its tank", x.entry(0, 2), 0);
            }
        }
        // The least sum of variances is 1, so that the gate alone is the greatest square.
        for (int i = 0; i < gates.length; i++) {
            PropellantGauge x = gauged(1000, 0, 1);
            x.setGaugeVariance(0, 1);
            x.set(1, gates[i]);
            x.set(0, 0);
            x.ignite(0);
            due("least variances, gate " + gates[i] + ", just above", x.read(0, 1001 + roots[i]), 2);
            due("least variances, gate " + gates[i] + ", just below", x.read(0, 999 - roots[i]), 2);
            due("least variances, gate " + gates[i] + ", at it", x.read(0, 1000 + roots[i]), 1);
            due("without a weight the estimate stays", x.mass(0, 2), 1000);
        }
        // A sum that is no square: 3 times 7 lies between 4 * 4 and 5 * 5.
        PropellantGauge y = gauged(1000, 2, 1);
        y.setGaugeVariance(0, 3);
        y.set(1, 3);
        y.set(0, 0);
        y.ignite(0);
        due("25 is greater than 21", y.read(0, 1005), 2);
        due("16 is not", y.read(0, 1004), 1);
    }

    private static void weightAndVarianceAreRoundedDown() {
        PropellantGauge x = gauged(1000, 0, 1);
        x.set(0, 0);
        due("the gauging variance is 1000000 initially", x.setGaugeVariance(0, 1), 1000000);
        due("no variance, least gauging variance", x.weight(0), 0);
        x.load(0, 1000, 1);
        due("the same variance", x.weight(0), 500);
        x.load(0, 1000, 31);
        due("961 of 962", x.weight(0), 998);
        x.load(0, 1000, 32);
        due("1024 of 1025", x.weight(0), 999);
        x.load(0, 1000, 1000000);
        due("never 1000", x.weight(0), 999);
        x.setGaugeVariance(0, 1000000000000L);
        x.load(0, 1000, 31622);
        due("just not a thousandth", x.weight(0), 0);
        x.load(0, 1000, 31639);
        due("a thousandth", x.weight(0), 1);
        x.ignite(0);
        due("a reading with this weight", x.read(0, 10000), 1);
        due("adds a thousandth", x.mass(0, 2), 1009);
        due("and takes a thousandth of the variance", x.mass(0, 5), 1001026321L * 999 / 1000);
        due("weight in a burn", x.weight(0), 0);
        x.cutoff();
        x.load(0, 1000, 3);
        x.setGaugeVariance(0, 5);
        x.ignite(0);
        due("9 of 14", x.weight(0), 642);
        due("a reading with it", x.read(0, 1000), 1);
        due("9 * 358 / 1000, rounded down", x.mass(0, 5), 3);
    }

    private static void negativeInnovationsAreRoundedDown() {
        int[] innovations = {-5, -4, -3, -2, -1, 0, 1, 2, 3, 4, 5};
        int[] added = {-2, -1, -1, -1, -1, 0, 0, 0, 0, 1, 1};
        for (int i = 0; i < innovations.length; i++) {
            PropellantGauge x = gauged(1000, 10, 1);
            x.setGaugeVariance(0, 300);
            x.set(0, 0);
            x.ignite(0);
            due("weight of a quarter", x.weight(0), 250);
            x.read(0, 1000 + innovations[i]);
            due("a quarter of " + innovations[i], x.mass(0, 2), 1000 + added[i]);
            due("its entry", x.entry(0, 3), added[i]);
        }
        for (int mass = 0; mass <= 3; mass++) {
            PropellantGauge x = gauged(mass, 1000000, 1);
            x.setGaugeVariance(0, 1);
            x.set(0, 0);
            x.ignite(0);
            due("a reading of 0 for " + mass, x.read(0, 0), 1);
            due("the estimate is 0, not below it", x.mass(0, 2), 0);
            due("what was added", x.entry(0, 3), -mass);
        }
    }

    private static void theGaugedMassIsRoundedDown() {
        int[] densities = {1, 999, 1000, 1001, 3000};
        int[] gauged = {0, 998, 999, 999, 2997};
        for (int i = 0; i < densities.length; i++) {
            PropellantGauge x = new PropellantGauge();
            x.addTank(densities[i], 0);
            x.addPoint(0, 5, 999);
            engine(x, "a", 1, 0);
            x.load(0, 100000, 0);
            x.set(0, 0);
            x.set(1, 1);
            x.setGaugeVariance(0, 1);
            x.ignite(0);
            due("an outlier", x.read(0, 5), 2);
            due("999 of density " + densities[i], x.entry(0, 3), gauged[i] - 100000);
        }
    }

    // ---- masses

    private static void usableMass() {
        PropellantGauge x = new PropellantGauge();
        x.addTank(1000, 100);
        due("an empty tank", x.mass(0, 3), 0);
        int[] masses = {0, 99, 100, 101, 119, 120, 121};
        int[] usable = {0, 0, 0, 1, 19, 20, 21};
        for (int i = 0; i < masses.length; i++) {
            x.load(0, masses[i], 0);
            due("usable of " + masses[i], x.mass(0, 3), usable[i]);
            x.load(0, masses[i], 10);
            due("usable of " + masses[i] + " less 20", x.mass(0, 3), Math.max(0, usable[i] - 20));
        }
        x.load(0, 1000, 7);
        due("the margin is 20 initially", x.set(2, 0), 20);
        int[] margins = {0, 1, 2, 9, 10, 99, 100};
        int[] reserves = {0, 0, 1, 6, 7, 69, 70};
        for (int i = 0; i < margins.length; i++) {
            x.set(2, margins[i]);
            due("margin " + margins[i], x.mass(0, 3), 900 - reserves[i]);
        }
        PropellantGauge y = gauged(1000, 3, 1);
        y.setGaugeVariance(0, 9);
        y.set(0, 0);
        y.set(2, 10);
        y.ignite(0);
        due("the root of 9", y.mass(0, 3), 997);
        y.read(0, 1000);
        due("a variance of 4", y.mass(0, 5), 4);
        due("the root of 4", y.mass(0, 3), 998);
        y.setGaugeVariance(0, 12);
        y.read(0, 1000);
        due("a variance of 3", y.mass(0, 5), 3);
        due("the root of 3, rounded down", y.mass(0, 3), 999);
    }

    private static void driftIsRoundedDown() {
        int[] readings = {994, 998, 999, 1000, 1001, 1002, 1006};
        int[] added = {-3, -1, -1, 0, 0, 1, 3};
        int[] drifts = {-15, -5, -5, 0, 0, 5, 15};
        for (int i = 0; i < readings.length; i++) {
            PropellantGauge x = gauged(1000, 3, 1);
            x.setGaugeVariance(0, 9);
            x.set(0, 0);
            x.ignite(0);
            x.read(0, readings[i]);
            due("added by a reading of " + readings[i], x.entry(0, 3), added[i]);
            due("drift by the root of 5", x.drift(0), drifts[i]);
        }
        PropellantGauge y = gauged(1000, 8, 1);
        y.setGaugeVariance(0, 64);
        y.set(0, 0);
        y.ignite(0);
        y.read(0, 998);
        due("a variance of 32", y.mass(0, 5), 32);
        due("-10 / 5, without a rest", y.drift(0), -2);
        y.cutoff();
        y.load(0, 1000, 9);
        y.setGaugeVariance(0, 81);
        y.ignite(0);
        y.read(0, 998);
        due("a variance of 40", y.mass(0, 5), 40);
        due("-10 / 6 is rounded down", y.drift(0), -2);
        y.cutoff();
        y.load(0, 1000, 9);
        y.ignite(0);
        y.read(0, 1002);
        due("10 / 6 is rounded down", y.drift(0), 1);
        // Gauging variances that leave just these variances, and the roots of one more than them.
        int[] uncertainties = {1, 2, 3, 3, 3};
        int[] gaugings = {1, 3, 3, 5, 9};
        int[] variances = {0, 1, 2, 3, 4};
        int[] roots = {1, 1, 1, 2, 2};
        for (int i = 0; i < variances.length; i++) {
            PropellantGauge x = gauged(1000, uncertainties[i], 1);
            x.setGaugeVariance(0, gaugings[i]);
            x.set(0, 0);
            x.ignite(0);
            x.read(0, 1004);
            due("variance " + variances[i], x.mass(0, 5), variances[i]);
            due("drift by variance " + variances[i], x.drift(0), 10 * x.entry(0, 3) / roots[i]);
        }
    }

    // ---- ledger

    private static void entriesHaveTheirTimes() {
        PropellantGauge x = gauged(20, 100, 10);
        dueEntry(x, "loaded", 0, 5, 0, 20);
        x.pass(3);
        x.load(0, 0, 0);
        dueEntry(x, "loaded with nothing", 3, 5, 0, 0);
        x.load(0, 20, 100);
        x.set(0, 1);
        x.ignite(0);
        x.pass(1);
        x.read(0, 10);
        dueEntry(x, "accepted with nothing to add", 4, 2, 0, 0);
        x.read(0, 10000);
        dueEntry(x, "an outlier", 4, 3, 0, 9990);
        x.pass(5);
        dueEntry(x, "starving, at the time before the step", 5, 4, -1, 0);
        x.cutoff();
        dueEntry(x, "a burn", 9, 1, -1, 20);
        x.ignite(0);
        x.cutoff();
        dueEntry(x, "a burn without time", 9, 1, -1, 0);
    }

    // ---- helpers

    /** Tanks of the same mass without variances, and an engine named a that is open to all of them. */
    private static PropellantGauge craft(int tanks, int mass, int flow, int uncertainty) {
        PropellantGauge x = new PropellantGauge();
        for (int t = 0; t < tanks; t++) {
            x.addTank(1000, 0);
            x.load(t, mass, 0);
        }
        engine(x, "a", flow, uncertainty);
        return x;
    }

    /** A tank whose gauged mass is its level, and an engine named a without an uncertainty. */
    private static PropellantGauge gauged(int mass, int uncertainty, int flow) {
        PropellantGauge x = new PropellantGauge();
        x.addTank(1000, 0);
        x.addPoint(0, 0, 0);
        x.addPoint(0, 10000, 10000);
        x.load(0, mass, uncertainty);
        engine(x, "a", flow, 0);
        return x;
    }

    private static int engine(PropellantGauge x, String name, int flow, int uncertainty) {
        return Checks.engine(x, name, flow, uncertainty);
    }

    private static void burnFor(PropellantGauge x, int engine, int ms) {
        x.ignite(engine);
        x.pass(ms);
        x.cutoff();
    }

    private static void dueEntry(PropellantGauge x, String what, long time, long kind, long tank, long amount) {
        due(what + ", time", x.entry(0, 0), time);
        due(what + ", kind", x.entry(0, 1), kind);
        due(what + ", tank", x.entry(0, 2), tank);
        due(what + ", amount", x.entry(0, 3), amount);
    }

    private static void due(String call, long got, long want) {
        CHECKS.due(call, got, want);
    }
}
