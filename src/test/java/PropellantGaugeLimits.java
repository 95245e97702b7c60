/** Each fixed limit of the document: empty, one below it, just full, and what comes after the full one. */
public final class PropellantGaugeLimits {
    private static final Checks CHECKS = new Checks("limits");
    private static final long ERROR = -1000000000000000000L;

    public static void main(String[] args) {
        fourTanks();
        eightPoints();
        sixEngines();
        sixLetters();
        namesAreDifferent();
        twentyFourEntries();
        everyKindPushesTheOldestOut();
        hundredCharacters();
        aHundredCharactersOfCommands();
        theGreatestVariance();
        theGreatestVarianceInUse();
        fiveThousandMilliseconds();
        twoThousandMilliseconds();
        theGreatestMasses();
        theGreatestSums();
        CHECKS.finish();
    }

    private static void fourTanks() {
        PropellantGauge x = new PropellantGauge();
        due("no tank: mass", x.mass(0, 0), -1);
        for (int t = 0; t < 4; t++) {
            due("the tank behind the last: mass", x.mass(t, 4), -1);
            due("the tank behind the last: setLeak", x.setLeak(t, 0), -1);
            due("the tank behind the last: setGaugeVariance", x.setGaugeVariance(t, 1), -1);
            due("the tank behind the last: weight", x.weight(t), -1);
            due("the tank behind the last: drift", x.drift(t), ERROR);
            due("tanks are numbered from 0", x.addTank(1000, 10 + t), t);
            due("tankCount", x.tankCount(), t + 1);
            due("the last tank: mass", x.mass(t, 4), 10 + t);
            due("the last tank: drift", x.drift(t), 0);
        }
        for (int i = 0; i < 3; i++) {
            due("a fifth tank", x.addTank(1000, 99), -3);
        }
        due("four tanks stay", x.tankCount(), 4);
        due("there is no tank 4", x.mass(4, 0), -1);
        for (int t = 0; t < 4; t++) {
            due("a refused tank changes no other", x.mass(t, 4), 10 + t);
        }
        engine(x, "a", 4, 0);
        due("all four tanks are open", x.setValve(0, 3, 1), 15);
        for (int t = 0; t < 4; t++) {
            x.load(t, 10, 0);
        }
        burnFor(x, 0, 1);
        for (int t = 0; t < 4; t++) {
            due("all four tanks give", x.mass(t, 0), 9);
        }
    }

    private static void eightPoints() {
        PropellantGauge x = new PropellantGauge();
        x.addTank(1000, 0);
        due("no point", x.volume(0, 5000), -4);
        for (int p = 0; p < 8; p++) {
            due("points", x.addPoint(0, 1000 * p, 10 * p * p), p + 1);
            due("the last point's volume above it", x.volume(0, 10000), 10 * p * p);
        }
        for (int i = 0; i < 3; i++) {
            due("a ninth point", x.addPoint(0, 9000, 900), -3);
        }
        for (int p = 0; p < 8; p++) {
            due("at point " + p, x.volume(0, 1000 * p), 10 * p * p);
        }
        due("between the last two", x.volume(0, 6500), 425);
        due("above the last", x.volume(0, 7001), 490);
        due("at the refused one", x.volume(0, 9000), 490);
        x.addTank(1000, 0);
        due("another tank has a table of its own", x.addPoint(1, 0, 0), 1);
    }

    private static void sixEngines() {
        PropellantGauge x = new PropellantGauge();
        x.addTank(1000, 0);
        x.load(0, 100000, 0);
        for (int e = 0; e < 6; e++) {
            due("the engine behind the last: used", x.used(e), -1);
            due("the engine behind the last: delivered", x.delivered(e), -1);
            due("the engine behind the last: ignite", x.ignite(e), -1);
            due("the engine behind the last: setValve", x.setValve(e, 0, 1), -1);
            due("the engine behind the last: longestBurn", x.longestBurn(e), -1);
            due("engines are numbered from 0", engine(x, name(e), 1 + e, 0), e);
            burnFor(x, e, 10);
            due("the last engine: used", x.used(e), 10 + 10 * e);
            due("the last engine: delivered", x.delivered(e), 10 + 10 * e);
        }
        due("a seventh engine", engine(x, "g", 50, 0), -3);
        due("a seventh engine again", x.addEngine(50, 0), -3);
        due("its name stays in the buffer", x.letter('g'), 2);
        due("there is no engine gg", x.engineNamed(), -4);
        due("there is no engine 6", x.used(6), -1);
        for (int e = 0; e < 6; e++) {
            due("a refused engine changes no other", x.used(e), 10 + 10 * e);
            Checks.write(x, "burn " + name(e) + " 1;");
            due("each has its name and flow", x.planned(), 1 + e);
        }
    }

    private static String name(int engine) {
        return new String[] {"a", "ab", "abc", "abcd", "abcde", "abcdef"}[engine];
    }

    private static void sixLetters() {
        PropellantGauge x = new PropellantGauge();
        due("no letter: no name", x.addEngine(1, 0), -2);
        due("no letter: none found", x.engineNamed(), -4);
        due("one letter", x.letter('z'), 1);
        due("a name of one letter", x.addEngine(1, 0), 0);
        due("the buffer is empty behind it", x.addEngine(1, 0), -2);
        for (int n = 1; n <= 6; n++) {
            due("letters", x.letter('z'), n);
        }
        due("a seventh letter", x.letter('a'), -3);
        due("a seventh letter again", x.letter('z'), -3);
        due("a name of six letters", x.addEngine(1, 0), 1);
        due("the buffer is empty behind it", x.letter('z'), 1);
        due("the engine of one letter", x.engineNamed(), 0);
        Checks.spell(x, "zzzzz");
        due("five letters are another name", x.engineNamed(), -4);
        due("the name stays if none is found", x.letter('z'), 6);
        due("the engine of six letters", x.engineNamed(), 1);
        due("the buffer is empty behind it too", x.engineNamed(), -4);
        due("so that it takes letters again", x.letter('a'), 1);
    }

    private static void namesAreDifferent() {
        String[][] sets = {{"ab", "ba", "a", "b", "aab", "aba"}, {"zzzzzz", "zzzzz", "zzzzzy", "yzzzzz", "z", "zzyzzz"}};
        for (String[] names : sets) {
            PropellantGauge x = new PropellantGauge();
            for (int e = 0; e < 6; e++) {
                due("the new name " + names[e], engine(x, names[e], 1, 0), e);
            }
            for (int e = 0; e < 6; e++) {
                due("the old name " + names[e], engine(x, names[e], 1, 0), -2);
                due("its engine", x.engineNamed(), e);
            }
        }
    }

    private static void twentyFourEntries() {
        PropellantGauge x = new PropellantGauge();
        due("no entry", x.entryCount(), 0);
        due("no entry 0", x.entry(0, 0), ERROR);
        x.addTank(1000, 0);
        for (int n = 1; n <= 24; n++) {
            x.load(0, n, 0);
            due("entries", x.entryCount(), n);
            due("the latest is first", x.entry(0, 3), n);
            due("the oldest is last", x.entry(n - 1, 3), 1);
            due("none behind the oldest", x.entry(n, 3), ERROR);
        }
        for (int n = 25; n <= 50; n++) {
            x.load(0, n, 0);
            due("entries beyond 24", x.entryCount(), 24);
            due("the latest beyond 24", x.entry(0, 3), n);
            due("the oldest that is kept", x.entry(23, 3), n - 23);
            due("none behind it", x.entry(24, 3), ERROR);
        }
    }

    private static void everyKindPushesTheOldestOut() {
        PropellantGauge x = new PropellantGauge();
        x.addTank(1000, 0);
        x.addPoint(0, 0, 0);
        x.addPoint(0, 10000, 10000);
        engine(x, "a", 10, 0);
        x.set(0, 0);
        for (int n = 0; n < 23; n++) {
            x.load(0, 1000, 1000);
        }
        x.ignite(0);
        due("23 entries", x.entryCount(), 23);
        due("accepted", x.read(0, 1000), 1);
        due("the 24th entry", x.entry(0, 1), 2);
        due("a load is the oldest", x.entry(23, 1), 5);
        due("an outlier", x.read(0, 10000), 2);
        dueEntry(x, "the outlier's entry", 0, 3, 0, 9000);
        due("24 stay behind an outlier", x.entryCount(), 24);
        x.pass(101);
        dueEntry(x, "the entry of starving", 100, 4, -1, 0);
        due("24 stay behind starving", x.entryCount(), 24);
        x.cutoff();
        dueEntry(x, "the burn's entry", 101, 1, -1, 1000);
        due("24 stay behind a burn", x.entryCount(), 24);
        due("and so does the accepted reading", x.entry(3, 1), 2);
        for (int n = 0; n < 20; n++) {
            x.ignite(0);
            x.cutoff();
        }
        due("the accepted reading is the oldest", x.entry(23, 1), 2);
        x.load(0, 5, 0);
        due("then the outlier is", x.entry(23, 1), 3);
        due("and the load is the latest", x.entry(0, 1), 5);
    }

    private static void hundredCharacters() {
        PropellantGauge x = new PropellantGauge();
        due("no character", x.clearText(), 0);
        due("no fault in it", x.fault(), -4);
        due("nothing to execute", x.execute(), 0);
        due("nothing planned", x.planned(), 0);
        for (int n = 1; n <= 99; n++) {
            due("characters", x.type("stop;".charAt((n - 1) % 5)), n);
        }
        due("the last command has no semicolon yet", x.fault(), 95);
        due("the hundredth", x.type(';'), 100);
        due("no fault in a full text", x.fault(), -4);
        due("one more", x.type(';'), -3);
        due("one more again", x.type('s'), -3);
        due("still no fault", x.fault(), -4);
        due("its length", x.clearText(), 100);
        due("its length behind that", x.clearText(), 0);
        due("it takes characters again", x.type('x'), 1);
        due("and nothing of the old ones is left", x.fault(), 0);
        Checks.write(x, "stop");
        due("not even the semicolon behind it", x.fault(), 0);
    }

    private static void aHundredCharactersOfCommands() {
        PropellantGauge x = new PropellantGauge();
        x.addTank(1000, 0);
        x.load(0, 1000000000, 0);
        engine(x, "a", 1, 0);
        Checks.write(x, "start a;" + "wait 2000;".repeat(8) + "wait 200;xx;");
        due("the last command of 100 characters is a fault", x.fault(), 97);
        Checks.write(x, "start a;" + "wait 2000;".repeat(7) + "wait 0010;wait 1;stop;");
        due("a full text is planned whole", x.planned(), 14011);
        due("a full text is executed whole", x.execute(), 11);
        due("all its time has passed", x.time(), 14011);
        due("its length", x.clearText(), 100);
    }

    /** Burns of 100000 milligrams a millisecond with an uncertainty of one half, so that roots are exact. */
    private static void theGreatestVariance() {
        long greatest = 1000000000000000L;
        int[] lastMasses = {59999998, 60000000, 60000002};
        long[] due = {999999940000001L, greatest, greatest};
        for (int i = 0; i < 3; i++) {
            PropellantGauge x = new PropellantGauge();
            x.addTank(1000, 0);
            engine(x, "a", 100000, 500);
            x.load(0, 20000000 + lastMasses[i], 0);
            burnFor(x, 0, 200);
            due("the first part of the variance", x.mass(0, 5), 100000000000000L);
            burnFor(x, 0, 700);
            due("a last share of " + lastMasses[i], x.mass(0, 5), due[i]);
            burnFor(x, 0, 1);
            due("a burn without a share adds nothing", x.mass(0, 5), due[i]);
        }
        PropellantGauge y = new PropellantGauge();
        y.addTank(1000, 0);
        y.addTank(1000, 0);
        engine(y, "a", 100000, 500);
        y.load(0, 1000000000, 1000000);
        y.setValve(0, 1, 0);
        for (int i = 0; i < 6; i++) {
            burnFor(y, 0, 1700);
        }
        due("the greatest variance stays", y.mass(0, 5), greatest);
        due("the other tank's is 0", y.mass(1, 5), 0);
        y.load(0, 1, 3);
        due("a load makes it small again", y.mass(0, 5), 9);
    }

    private static void theGreatestVarianceInUse() {
        PropellantGauge x = new PropellantGauge();
        x.addTank(1000, 0);
        x.addPoint(0, 0, 0);
        x.addPoint(0, 10000, 1000000000);
        engine(x, "a", 100000, 500);
        x.load(0, 1000000000, 0);
        burnFor(x, 0, 1000);
        due("the greatest variance", x.mass(0, 5), 1000000000000000L);
        // The root of 10^15 is 31622776, and so is that of one more.
        due("usable", x.mass(0, 3), 900000000 - 63245552);
        x.set(2, 100);
        due("usable by the greatest margin", x.mass(0, 3), 900000000 - 316227760);
        x.setGaugeVariance(0, 1);
        due("weight beside the least gauging variance", x.weight(0), 999);
        x.setGaugeVariance(0, 1000000000000L);
        due("weight beside the greatest gauging variance", x.weight(0), 999);
        x.set(0, 0);
        x.set(1, 1);
        x.ignite(0);
        // With the gate 1 the greatest innovation is the root of 1001000000000000, which is 31638584.
        due("an outlier below", x.read(0, 8683), 2);
        due("accepted below", x.read(0, 8684), 1);
        due("the estimate", x.mass(0, 2), 900000000 - 31568400);
        due("the variance", x.mass(0, 5), 1000000000000L);
        due("drift by the root of 10^12 + 1", x.drift(0), -316);
    }

    private static void fiveThousandMilliseconds() {
        PropellantGauge x = new PropellantGauge();
        x.addTank(1000, 100);
        engine(x, "a", 2, 0);
        int[] masses = {99, 100, 101, 102, 103, 10097, 10098, 10099, 10100, 10101, 10102, 20000};
        int[] due = {-4, 0, 0, 1, 1, 4998, 4999, 4999, 5000, 5000, 5000, 5000};
        for (int i = 0; i < masses.length; i++) {
            x.load(0, masses[i], 0);
            due("longestBurn of " + masses[i], x.longestBurn(0), due[i]);
        }
        x.load(0, 0, 0);
        due("a tank without a booked mass does not count", x.longestBurn(0), 5000);
        x.load(0, 1, 0);
        due("one with the least booked mass does", x.longestBurn(0), -4);
        x.setValve(0, 0, 0);
        due("but not a closed one", x.longestBurn(0), 5000);
        x.setValve(0, 0, 1);
        x.load(0, 1000000000, 0);
        due("longestBurn of the greatest mass", x.longestBurn(0), 5000);
        x.load(0, 1000000, 0);
        x.set(0, 5000);
        x.ignite(0);
        x.pass(2000);
        x.pass(2000);
        x.pass(999);
        due("one less than the greatest settling time", x.burn(2), 0);
        x.pass(1);
        due("the greatest settling time", x.burn(2), 1);
        due("it has lasted", x.burn(1), 5000);
        x.pass(1);
        due("a burn may last longer", x.burn(1), 5001);
        due("and has settled still", x.burn(2), 1);
    }

    private static void twoThousandMilliseconds() {
        PropellantGauge x = new PropellantGauge();
        x.addTank(1000, 0);
        x.load(0, 5000000, 0);
        x.setLeak(0, 1000);
        due("one less than the least", x.pass(0), -1);
        due("one more than the greatest", x.pass(2001), -1);
        due("nothing has leaked", x.mass(0, 0), 5000000);
        due("the least", x.pass(1), 1);
        due("leaked in it", x.mass(0, 0), 4999000);
        due("the greatest", x.pass(2000), 2001);
        due("leaked in that", x.mass(0, 0), 2999000);
        for (String text : new String[] {"wait 0;", "wait 2001;", "wait 1;", "wait 2000;"}) {
            Checks.write(x, text);
            due(text, x.execute(), text.equals("wait 1;") || text.equals("wait 2000;") ? 1 : -2);
        }
        due("the time behind the texts", x.time(), 4002);
    }

    private static void theGreatestMasses() {
        PropellantGauge x = new PropellantGauge();
        x.addTank(3000, 1000000000);
        x.addPoint(0, 0, 1000000000);
        engine(x, "a", 1, 0);
        x.load(0, 1000000000, 0);
        due("all of it is residual", x.mass(0, 3), 0);
        due("and not below it", x.longestBurn(0), 0);
        due("the greatest volume", x.volume(0, 10000), 1000000000);
        x.set(0, 0);
        x.ignite(0);
        due("an outlier", x.read(0, 0), 2);
        due("the greatest gauged mass less the greatest mass", x.entry(0, 3), 2000000000);
        x.cutoff();
        x.load(0, 0, 1000000);
        x.ignite(0);
        due("an outlier of an empty tank", x.read(0, 0), 2);
        due("the greatest innovation", x.entry(0, 3), 3000000000L);
    }

    private static void theGreatestSums() {
        PropellantGauge x = new PropellantGauge();
        x.addTank(1000, 0);
        x.addTank(1000, 0);
        x.addTank(1000, 0);
        engine(x, "a", 100000, 0);
        for (int round = 0; round < 3; round++) {
            for (int t = 0; t < 3; t++) {
                x.load(t, 1000000000, 0);
            }
            x.ignite(0);
            for (int i = 0; i < 15; i++) {
                x.pass(2000);
            }
            // Tank 0, which gives the rest of each division, is empty; the others have 10000 each.
            due("delivered", x.delivered(0), 3000000000L * round + 2999980000L);
            due("booked", x.used(0), 3000000000L * round + 2999980000L);
            x.pass(1);
            due("all is delivered", x.delivered(0), 3000000000L * (round + 1));
            due("all is booked", x.used(0), 3000000000L * (round + 1));
            due("the last of it came in time", x.burn(3), 0);
            x.pass(1);
            due("nothing is left", x.burn(3), 1);
            x.cutoff();
            due("the amount of the burn", x.entry(0, 3), 3000000000L);
        }
    }

    // ---- helpers

    private static int engine(PropellantGauge x, String name, int flow, int uncertainty) {
        return Checks.engine(x, name, flow, uncertainty);
    }

    private static void burnFor(PropellantGauge x, int engine, int ms) {
        x.ignite(engine);
        x.pass(ms);
        x.cutoff();
    }

    private static void dueEntry(PropellantGauge x, String what, long time, long kind, long tank, long amount) {
        due(what + ", time", x.entry(0, 0), time);
        due(what + ", kind", x.entry(0, 1), kind);
        due(what + ", tank", x.entry(0, 2), tank);
        due(what + ", amount", x.entry(0, 3), amount);
    }

    private static void due(String call, long got, long want) {
        CHECKS.due(call, got, want);
    }
}
